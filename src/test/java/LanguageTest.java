import java.io.IOException;
import java.nio.file.Files;
import java.nio.file.Path;
import java.util.regex.Matcher;
import java.util.regex.Pattern;

/** Those rules of LANGUAGE.md that can be seen in the text of the program; run from the project's folder. */
public final class LanguageTest {
    private static final String[] NOT_THERE = {
        "->", "::", "\\bimport\\b", "\\bpackage\\b", "\\bcatch\\b", "\\btry\\b", "\\bfinally\\b", "\\bsynchronized\\b",
        "\\bassert\\b", "\\bvar\\b", "\\bprotected\\b", "\\bstatic\\s*\\{", "\\bSystem\\.(?!arraycopy\\b)",
        "\\bMath\\.\\w+Exact\\b", "\\b(equals|hashCode|toString)\\s*\\(", "\\bRandom\\b", "\\bThread\\b",
        "private static (?!final|void|boolean|int|long|double)", "@",
    };
    private static final Pattern METHOD = Pattern.compile("^( +)[\\w \\[\\]]+\\([^;]*\\{$");
    private static final int LONGEST_METHOD = 60;
    private static final int MOST_CLASSES = 12;

    public static void main(String[] args) throws IOException {
        Check check = new Check();
        String text = Files.readString(Path.of("src/main/java/Nettle.java"));
        check.same("signs of texts", text.chars().allMatch(sign -> sign < 128), true);
        String code = text.replaceAll("(?s)/\\*.*?\\*/", "").replaceAll("//[^\n]*", "").replaceAll("\"[^\"\n]*\"", "\"\"");
        for (String unwanted : NOT_THERE) {
            Matcher found = Pattern.compile(unwanted).matcher(code);
            check.same("rule of the language: " + unwanted, found.find() ? found.group() : "", "");
        }
        check.same("no more than some twelve classes", code.split("\\bclass\\b").length - 1 <= MOST_CLASSES, true);
        Matcher thrown = Pattern.compile("throw new (\\w+)\\(").matcher(code);
        while (thrown.find()) {
            check.same("an exception of the document", thrown.group(1).matches(
                    "IndexOutOfBoundsException|IllegalArgumentException|IllegalStateException"), true);
        }
        methodsAreShort(check, code.split("\n"));
        check.done("LanguageTest");
    }

    private static void methodsAreShort(Check check, String[] lines) {
        for (int i = 0; i < lines.length; i++) {
            Matcher method = METHOD.matcher(lines[i]);
            if (method.find() && !lines[i].trim().matches("(if|for|while|switch|\\}).*")) {
                int end = i;
                while (end < lines.length && !lines[end].equals(method.group(1) + "}")) {
                    end++;
                }
                check.same("a short method: " + lines[i].trim(), end - i < LONGEST_METHOD, true);
            }
        }
    }
}
