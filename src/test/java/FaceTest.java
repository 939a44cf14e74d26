import java.lang.reflect.Constructor;
import java.lang.reflect.Field;
import java.lang.reflect.Method;
import java.lang.reflect.Modifier;
import java.util.Arrays;
import java.util.Set;
import java.util.TreeSet;

/** The public face is the document's, and nothing else of the class can be seen from outside. */
public final class FaceTest {
    private static final String BOUNDS = " throws IndexOutOfBoundsException";
    private static final String ILLEGAL = " throws IllegalArgumentException";
    private static final String BOTH = " throws IndexOutOfBoundsException, IllegalArgumentException";

    private static final String[] FACE = {
        "int rule(int)" + ILLEGAL + ", IllegalStateException",
        "int narrow(int, int, int, int)" + BOTH,
        "int turn(int, int)" + BOTH,
        "int move(int, int)" + BOUNDS,
        "int drop(int)" + BOUNDS,
        "boolean setLast(boolean)",
        "int shrink()",
        "int rules()",
        "int ofRule(int, int)" + BOTH,
        "int decides(int)" + BOUNDS,
        "int allowed()",
        "int state(int)" + BOUNDS,
        "int coveredBy(int)" + BOUNDS,
        "int shared(int, int)" + BOUNDS,
        "int quarrels()",
        "int decider(int, int, int, int)" + ILLEGAL,
        "int nodes()",
        "int ofNode(int, int)" + BOTH,
        "int piece(int, int, int)" + BOTH,
        "int steps(int, int, int, int)" + ILLEGAL,
        "double meanSteps()",
        "int send(int, int, int, int)" + ILLEGAL,
        "int sent(int)" + ILLEGAL,
        "int kept(int, int)" + BOTH,
        "int forget()",
        "int copy()",
        "int changed()",
        "int witness(int)" + ILLEGAL,
        "int allowedWithout(int)" + BOUNDS,
        "int changedByMove(int, int)" + BOUNDS,
        "long digest()",
    };

    public static void main(String[] args) {
        Check check = new Check();
        Set<String> seen = new TreeSet<>();
        Set<String> publicNames = new TreeSet<>();
        for (Method method : Nettle.class.getDeclaredMethods()) {
            if (!method.isSynthetic() && !Modifier.isPrivate(method.getModifiers())) {
                check.same(method + " is a plain public one", method.getModifiers(), Modifier.PUBLIC);
                seen.add(signature(method));
                publicNames.add(method.getName());
            }
        }
        check.same("the face", seen.toString(), new TreeSet<>(Arrays.asList(FACE)).toString());
        for (Method method : Nettle.class.getDeclaredMethods()) {
            if (Modifier.isPrivate(method.getModifiers())) {
                check.same(method + " has a name of its own", publicNames.contains(method.getName()), false);
            }
        }
        for (Field field : Nettle.class.getDeclaredFields()) {
            check.same(field + " is private", Modifier.isPrivate(field.getModifiers()), true);
        }
        Constructor<?>[] constructors = Nettle.class.getDeclaredConstructors();
        check.same("one constructor", constructors.length, 1);
        check.same("public Nettle()", constructors[0].toString(), "public Nettle()");
        check.same("public final class", Nettle.class.getModifiers(), Modifier.PUBLIC | Modifier.FINAL);
        check.done("FaceTest");
    }

    private static String signature(Method method) {
        StringBuilder text = new StringBuilder();
        text.append(method.getReturnType()).append(' ').append(method.getName());
        text.append(names(method.getParameterTypes(), "(")).append(')');
        return text.append(names(method.getExceptionTypes(), " throws ")).toString();
    }

    private static String names(Class<?>[] types, String ahead) {
        StringBuilder text = new StringBuilder();
        for (Class<?> type : types) {
            text.append(text.length() == 0 ? ahead : ", ").append(type.getSimpleName());
        }
        return text.length() == 0 && ahead.equals("(") ? "(" : text.toString();
    }
}
