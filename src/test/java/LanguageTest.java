import com.sun.source.tree.ArrayAccessTree;
import com.sun.source.tree.AssignmentTree;
import com.sun.source.tree.BinaryTree;
import com.sun.source.tree.BlockTree;
import com.sun.source.tree.ClassTree;
import com.sun.source.tree.CompoundAssignmentTree;
import com.sun.source.tree.DoWhileLoopTree;
import com.sun.source.tree.EnhancedForLoopTree;
import com.sun.source.tree.ExpressionStatementTree;
import com.sun.source.tree.ExpressionTree;
import com.sun.source.tree.ForLoopTree;
import com.sun.source.tree.IfTree;
import com.sun.source.tree.LiteralTree;
import com.sun.source.tree.MethodInvocationTree;
import com.sun.source.tree.MethodTree;
import com.sun.source.tree.NewArrayTree;
import com.sun.source.tree.NewClassTree;
import com.sun.source.tree.ParenthesizedTree;
import com.sun.source.tree.StatementTree;
import com.sun.source.tree.ThrowTree;
import com.sun.source.tree.Tree;
import com.sun.source.tree.TypeCastTree;
import com.sun.source.tree.UnaryTree;
import com.sun.source.tree.VariableTree;
import com.sun.source.tree.WhileLoopTree;
import com.sun.source.util.TreePath;
import java.io.IOException;
import java.io.UncheckedIOException;
import java.nio.file.Files;
import java.nio.file.Path;
import java.util.EnumSet;
import java.util.List;
import java.util.Set;
import java.util.TreeSet;
import java.util.function.Predicate;
import java.util.stream.Collectors;
import java.util.stream.Stream;
import javax.lang.model.element.Element;
import javax.lang.model.element.ElementKind;
import javax.lang.model.element.ExecutableElement;
import javax.lang.model.element.Modifier;
import javax.lang.model.element.VariableElement;
import javax.lang.model.type.ArrayType;
import javax.lang.model.type.DeclaredType;
import javax.lang.model.type.TypeKind;
import javax.lang.model.type.TypeMirror;

/**
 * The rules of LANGUAGE.md, looked for in the trees of the program; run from the
 * project's folder. A rule is read as narrowly as the program keeps it: what it
 * allows and the program does without (lambdas and lists, say) is refused here.
 */
public final class LanguageTest {
    private static final Check CHECK = new Check();
    private static final Path TEXT = Path.of("src/main/java/Nettle.java");

    private static final int MOST_CLASSES = 12;
    private static final int MOST_FIELDS = 20;
    private static final int MOST_LINES = 60;
    private static final int MOST_PARAMETERS = 7;
    private static final int DEEPEST = 8;

    private static final Set<Tree.Kind> UNWANTED = EnumSet.of(
            Tree.Kind.LAMBDA_EXPRESSION, Tree.Kind.MEMBER_REFERENCE, Tree.Kind.TRY, Tree.Kind.CATCH,
            Tree.Kind.SYNCHRONIZED, Tree.Kind.ASSERT, Tree.Kind.INSTANCE_OF, Tree.Kind.NULL_LITERAL,
            Tree.Kind.ANNOTATION, Tree.Kind.PACKAGE, Tree.Kind.IMPORT);
    private static final Set<String> LIBRARY = Set.of(
            "java.lang.Math.abs", "java.lang.Math.max", "java.lang.Math.min", "java.lang.Math.floorDiv",
            "java.lang.Math.floorMod", "java.lang.Integer.bitCount", "java.lang.Integer.compare",
            "java.lang.Long.compare", "java.lang.System.arraycopy", "java.util.Arrays.fill",
            "java.util.Arrays.copyOf", "java.util.Arrays.copyOfRange");
    private static final Set<String> EXCEPTIONS = Set.of(
            "IllegalStateException", "IllegalArgumentException", "IndexOutOfBoundsException", "ArithmeticException",
            "UnsupportedOperationException", "NoSuchElementException", "RuntimeException");
    private static final Set<TypeKind> NUMBERS = EnumSet.of(TypeKind.INT, TypeKind.LONG, TypeKind.SHORT,
            TypeKind.BYTE, TypeKind.CHAR, TypeKind.BOOLEAN, TypeKind.DOUBLE, TypeKind.FLOAT);

    private static Source source;

    public static void main(String[] args) throws IOException {
        source = new Source(args.length == 0 ? TEXT : Path.of(args[0]));
        CHECK.sentence("Rule 1: one file, without a package line", LanguageTest::oneFile);
        CHECK.sentence("Rule 1: one class, with classes inside that are private or package-visible and static",
                LanguageTest::classesInside);
        CHECK.sentence("Rule 1: No private method bears the name of a public one", LanguageTest::namesOfMethods);
        CHECK.sentence("Rules 2, 3, 6: no lambda, method reference, try, synchronized, assert, instanceof, null",
                LanguageTest::kindsOfTrees);
        CHECK.sentence("Rule 2: no local class", LanguageTest::localClasses);
        CHECK.sentence("Rule 3: types", LanguageTest::types);
        CHECK.sentence("Rule 3: on doubles only + - * /, comparisons and casts", LanguageTest::doubles);
        CHECK.sentence("Rules 3, 4: signs are 1 to 127", LanguageTest::signs);
        CHECK.sentence("Rules 4, 13: only what stands here", LanguageTest::library);
        CHECK.sentence("Rule 5: Static fields are final constants", LanguageTest::staticFields);
        CHECK.sentence("Rule 5: arrays written out and never changed", LanguageTest::staticArrays);
        CHECK.sentence("Rule 6: throw new E() or throw new E(\"a written text\")", LanguageTest::throwing);
        CHECK.sentence("Rule 6: A call of the face throws exactly what the document says", LanguageTest::thrownByTheFace);
        CHECK.sentence("Rule 6: no equals, hashCode or toString", LanguageTest::methodsOfObjects);
        CHECK.sentence("Rule 6: == never between two Strings or objects of the library", LanguageTest::sameness);
        CHECK.sentence("Rule 7: a divisor, a length, a cast, a reference", LanguageTest::cannotThrow);
        CHECK.sentence("Rule 8: recursion is guarded", LanguageTest::recursion);
        CHECK.sentence("Rule 9: Every loop has an end that can be seen", LanguageTest::loops);
        CHECK.sentence("Rule 10: joining texts not by +", LanguageTest::joining);
        CHECK.sentence("Rule 11: parameters, lines, depth, classes, fields", LanguageTest::sizes);
        CHECK.sentence("Rule 12: what is made is made by constructors", LanguageTest::making);
        CHECK.sentence("Rule 12: a constructor hands out nothing", LanguageTest::constructors);
        CHECK.sentence("The document: ahead of the calls the interface says", LanguageTest::headings);
        CHECK.done("LanguageTest");
    }

    // ---- help

    /** None of those found is wanted: each is told with its line. */
    private static void none(String what, List<TreePath> found) {
        String told = found.stream().map(path -> source.line(path.getLeaf()) + ": " + firstLine(path.getLeaf()))
                .collect(Collectors.joining("; "));
        CHECK.same(what, told, "");
    }

    private static String firstLine(Tree tree) {
        return tree.toString().trim().split("\n")[0];
    }

    private static boolean isStatic(Element element) {
        return Source.has(element, Modifier.STATIC);
    }

    private static boolean isField(TreePath path) {
        return path.getLeaf() instanceof VariableTree && path.getParentPath().getLeaf() instanceof ClassTree;
    }

    private static boolean isStaticField(TreePath path) {
        return isField(path) && isStatic(source.meaning(path));
    }

    private static TypeKind kindOf(ExpressionTree expression) {
        return source.type(expression).getKind();
    }

    private static Tree bare(Tree tree) {
        Tree at = tree;
        while (at instanceof ParenthesizedTree) {
            at = ((ParenthesizedTree) at).getExpression();
        }
        return at;
    }

    /** A number written out, or a constant; 0 for all else. */
    private static long constant(Tree tree) {
        Tree at = bare(tree);
        if (at instanceof LiteralTree && ((LiteralTree) at).getValue() instanceof Number number) {
            return number.longValue();
        }
        if (at instanceof BinaryTree two && at.getKind() == Tree.Kind.MULTIPLY) {
            return constant(two.getLeftOperand()) * constant(two.getRightOperand());
        }
        if (at instanceof BinaryTree two && at.getKind() == Tree.Kind.PLUS) {
            return constant(two.getLeftOperand()) + constant(two.getRightOperand());
        }
        Object value = source.meaning(at) instanceof VariableElement variable ? variable.getConstantValue() : null;
        return value instanceof Number number ? number.longValue() : 0;
    }

    // ---- the rules

    private static void oneFile() {
        CHECK.same("files of the program", filesOf(TEXT.getParent()), "Nettle.java");
        CHECK.same("a package line", source.unit.getPackage() == null, true);
        CHECK.same("classes beside one another", source.unit.getTypeDecls().size(), 1);
        CHECK.same("the class", source.mainClass().getSimpleName().toString(), "Nettle");
        CHECK.same("it is public and final", source.mainClass().getModifiers().getFlags().toString(), "[public, final]");
    }

    private static String filesOf(Path folder) {
        try (Stream<Path> files = Files.walk(folder)) {
            return files.filter(Files::isRegularFile).map(file -> file.getFileName().toString()).sorted()
                    .collect(Collectors.joining(" "));
        } catch (IOException e) {
            throw new UncheckedIOException(e);
        }
    }

    private static void classesInside() {
        for (TreePath path : source.all(ClassTree.class)) {
            Element type = source.meaning(path);
            if (path.getLeaf() != source.mainClass()) {
                boolean isOpen = Source.has(type, Modifier.PUBLIC) || Source.has(type, Modifier.PROTECTED);
                CHECK.same(type + " cannot be seen", isOpen, false);
                CHECK.same(type + " is static", isStatic(type), true);
            }
        }
        none("members that can be seen", source.all(path -> path.getParentPath() != null
                && path.getParentPath().getLeaf() == source.mainClass() && path.getLeaf() instanceof VariableTree
                && !Source.has(source.meaning(path), Modifier.PRIVATE)));
    }

    private static void namesOfMethods() {
        Set<String> open = new TreeSet<>();
        for (ExecutableElement method : source.methods()) {
            if (Source.has(method, Modifier.PUBLIC)) {
                open.add(method.getSimpleName().toString());
            }
        }
        for (ExecutableElement method : source.methods()) {
            if (!Source.has(method, Modifier.PUBLIC) && !Source.isConstructor(method)) {
                CHECK.same(method + " has a name of its own", open.contains(method.getSimpleName().toString()), false);
            }
        }
    }

    private static void kindsOfTrees() {
        none("unwanted", source.all(path -> UNWANTED.contains(path.getLeaf().getKind())));
    }

    private static void localClasses() {
        none("local classes", source.all(path -> path.getLeaf() instanceof ClassTree
                && path.getLeaf() != source.mainClass() && !(path.getParentPath().getLeaf() instanceof ClassTree)));
    }

    private static boolean isKnownType(TypeMirror type) {
        if (type.getKind() == TypeKind.ARRAY) {
            return isKnownArray(((ArrayType) type).getComponentType());
        }
        return NUMBERS.contains(type.getKind()) || type.getKind() == TypeKind.VOID || isOwnClass(type);
    }

    private static boolean isKnownArray(TypeMirror part) {
        boolean isOfRows = part.getKind() == TypeKind.ARRAY
                && NUMBERS.contains(((ArrayType) part).getComponentType().getKind());
        return isOfRows || NUMBERS.contains(part.getKind()) || isOwnClass(part);
    }

    private static boolean isOwnClass(TypeMirror type) {
        return type.getKind() == TypeKind.DECLARED && source.isOwn(((DeclaredType) type).asElement());
    }

    private static void types() {
        none("of variables", source.all(path -> path.getLeaf() instanceof VariableTree
                && !isKnownType(source.meaning(path).asType())));
        for (ExecutableElement method : source.methods()) {
            CHECK.same("of what " + method + " returns", isKnownType(method.getReturnType()), true);
        }
        none("of arrays", source.all(path -> path.getLeaf() instanceof NewArrayTree
                && !isKnownType(source.type(path.getLeaf()))));
    }

    private static boolean isBroken(TypeKind kind) {
        return kind == TypeKind.DOUBLE || kind == TypeKind.FLOAT;
    }

    private static void doubles() {
        Set<Tree.Kind> fine = EnumSet.of(Tree.Kind.PLUS, Tree.Kind.MINUS, Tree.Kind.MULTIPLY, Tree.Kind.DIVIDE,
                Tree.Kind.LESS_THAN, Tree.Kind.LESS_THAN_EQUAL, Tree.Kind.GREATER_THAN, Tree.Kind.GREATER_THAN_EQUAL);
        none("other signs", source.all(path -> path.getLeaf() instanceof BinaryTree two
                && (isBroken(kindOf(two.getLeftOperand())) || isBroken(kindOf(two.getRightOperand())))
                && !fine.contains(two.getKind())));
        none("calls of the library", source.all(path -> path.getLeaf() instanceof MethodInvocationTree call
                && !source.isOwn(source.meaning(path))
                && call.getArguments().stream().anyMatch(argument -> isBroken(kindOf(argument)))));
    }

    private static void signs() {
        none("texts", source.all(path -> path.getLeaf() instanceof LiteralTree literal
                && literal.getValue() instanceof String text
                && text.chars().anyMatch(sign -> sign < 1 || sign > 127)));
    }

    private static void library() {
        none("methods", source.all(path -> path.getLeaf() instanceof MethodInvocationTree
                && !Source.isSuperCall(path.getLeaf()) && !isKnownMethod(source.meaning(path))));
        none("objects", source.all(path -> path.getLeaf() instanceof NewClassTree made
                && !(path.getParentPath().getLeaf() instanceof ThrowTree) && !isOwnClass(source.type(made))));
    }

    private static boolean isKnownMethod(Element method) {
        return source.isOwn(method) || LIBRARY.contains(method.getEnclosingElement() + "." + method.getSimpleName());
    }

    private static void staticFields() {
        for (TreePath path : source.all(LanguageTest::isStaticField)) {
            VariableElement field = (VariableElement) source.meaning(path);
            boolean isArray = field.asType().getKind() == TypeKind.ARRAY;
            CHECK.same(field + " is final", Source.has(field, Modifier.FINAL), true);
            CHECK.same(field + " is a constant", isArray || field.getConstantValue() != null, true);
            boolean isOfDoubles = isBroken(field.asType().getKind());
            CHECK.same(field + " is no double", isOfDoubles, false);
        }
        none("initialiser blocks", source.all(path -> path.getLeaf() instanceof BlockTree
                && path.getParentPath().getLeaf() instanceof ClassTree));
    }

    private static void staticArrays() {
        List<TreePath> arrays = source.all(path -> isStaticField(path)
                && source.meaning(path).asType().getKind() == TypeKind.ARRAY);
        for (TreePath path : arrays) {
            Tree start = ((VariableTree) path.getLeaf()).getInitializer();
            boolean isWritten = start instanceof NewArrayTree array && array.getInitializers() != null
                    && array.getInitializers().stream().allMatch(part -> part instanceof LiteralTree);
            CHECK.same(source.meaning(path) + " is written out", isWritten, true);
        }
        none("handed on, or changed", source.all(path -> path.getLeaf() instanceof ExpressionTree
                && source.meaning(path) instanceof VariableElement field
                && field.getKind() == ElementKind.FIELD && isStatic(field)
                && field.asType().getKind() == TypeKind.ARRAY
                && !isOnlyRead(path)));
    }

    /** An element of it is read, or its length: nothing else stands around it. */
    private static boolean isOnlyRead(TreePath path) {
        TreePath around = path.getParentPath();
        if (!(around.getLeaf() instanceof ArrayAccessTree access) || access.getExpression() != path.getLeaf()) {
            return around.getLeaf().toString().endsWith(".length");
        }
        Tree user = around.getParentPath().getLeaf();
        boolean isSet = user instanceof AssignmentTree set && set.getVariable() == access
                || user instanceof CompoundAssignmentTree
                || user instanceof UnaryTree && user.getKind().name().matches(".*(INCREMENT|DECREMENT)");
        return !isSet;
    }

    private static void throwing() {
        none("another form", source.all(path -> path.getLeaf() instanceof ThrowTree thrown && !isPlain(thrown)));
        none("in a constructor", source.all(path -> path.getLeaf() instanceof ThrowTree
                && Source.isConstructor(source.meaning(Source.around(path, MethodTree.class)))));
    }

    private static boolean isPlain(ThrowTree thrown) {
        return thrown.getExpression() instanceof NewClassTree made && made.getClassBody() == null
                && EXCEPTIONS.contains(made.getIdentifier().toString()) && made.getArguments().size() <= 1
                && made.getArguments().stream().allMatch(text -> text instanceof LiteralTree);
    }

    /** By its own text and those of the methods behind it; calls of other public ones are left to the tests. */
    private static void thrownByTheFace() {
        for (ExecutableElement method : source.methods()) {
            if (Source.has(method, Modifier.PUBLIC) && !Source.isConstructor(method)) {
                Set<String> thrown = source.thrownIn(method);
                for (ExecutableElement called
                        : source.reachedFrom(method, one -> !Source.has(one, Modifier.PUBLIC))) {
                    thrown.addAll(source.thrownIn(called));
                }
                Set<String> told = new TreeSet<>();
                for (TypeMirror type : method.getThrownTypes()) {
                    told.add(((DeclaredType) type).asElement().getSimpleName().toString());
                }
                boolean callsOthers = method.getSimpleName().contentEquals("digest");
                CHECK.same(method + " throws", thrown.toString(), (callsOthers ? Set.of() : told).toString());
            }
        }
    }

    private static void methodsOfObjects() {
        Set<String> unwanted = Set.of("equals", "hashCode", "toString", "finalize", "clone");
        for (ExecutableElement method : source.methods()) {
            CHECK.same("method " + method, unwanted.contains(method.getSimpleName().toString()), false);
        }
    }

    private static void sameness() {
        none("compared", source.all(path -> path.getLeaf() instanceof BinaryTree two
                && (two.getKind() == Tree.Kind.EQUAL_TO || two.getKind() == Tree.Kind.NOT_EQUAL_TO)
                && !NUMBERS.contains(kindOf(two.getLeftOperand()))));
    }

    private static void cannotThrow() {
        Set<Tree.Kind> dividing = EnumSet.of(Tree.Kind.DIVIDE, Tree.Kind.REMAINDER);
        none("divided by what may be 0", source.all(path -> path.getLeaf() instanceof BinaryTree two
                && dividing.contains(two.getKind()) && !isBroken(kindOf(two)) && constant(two.getRightOperand()) == 0));
        none("divided in place", source.all(path -> path.getLeaf().getKind() == Tree.Kind.DIVIDE_ASSIGNMENT
                || path.getLeaf().getKind() == Tree.Kind.REMAINDER_ASSIGNMENT));
        none("of a length that is no constant", source.all(path -> path.getLeaf() instanceof NewArrayTree array
                && array.getDimensions().stream().anyMatch(length -> constant(length) <= 0)));
        none("casts of objects", source.all(path -> path.getLeaf() instanceof TypeCastTree cast
                && !NUMBERS.contains(source.type(cast.getType()).getKind())));
        none("references that may be null", source.all(path -> isField(path)
                && !NUMBERS.contains(source.meaning(path).asType().getKind())
                && !Source.has(source.meaning(path), Modifier.FINAL)));
    }

    private static void recursion() {
        int found = 0;
        for (TreePath path : source.all(MethodTree.class)) {
            ExecutableElement method = (ExecutableElement) source.meaning(path);
            if (source.reachedFrom(method, source::isOwn).contains(method)) {
                found++;
                CHECK.same(method + " calls itself directly", source.calledBy(method).contains(method), true);
                CHECK.same(method + " is private", Source.has(method, Modifier.PRIVATE), true);
                CHECK.same(method + " is static", isStatic(method), true);
                CHECK.same(method + " carries the depth", carriesDepth(path, method), true);
                CHECK.same(method + " comes back by itself alone", callersInCircle(method), "");
            }
        }
        CHECK.same("the tree and the comparison", found, 2);
    }

    private static String callersInCircle(ExecutableElement method) {
        return source.reachedFrom(method, one -> source.isOwn(one) && !one.equals(method)).stream()
                .filter(one -> source.calledBy(one).contains(method)).map(Object::toString)
                .collect(Collectors.joining(" "));
    }

    /** It begins by turning back from the last FIELD on, and goes on with the next FIELD alone. */
    private static boolean carriesDepth(TreePath path, ExecutableElement method) {
        StatementTree first = ((MethodTree) path.getLeaf()).getBody().getStatements().get(0);
        boolean turnsBack = first instanceof IfTree test && test.getCondition().toString().startsWith("(field >= FIELDS ||")
                && test.getThenStatement().toString().contains("return");
        boolean goesOn = source.inside(path, one -> one.getLeaf() instanceof MethodInvocationTree
                && method.equals(source.meaning(one))).stream().allMatch(
                        one -> ((MethodInvocationTree) one.getLeaf()).getArguments().get(1).toString().equals("field + 1"));
        boolean isSet = source.inside(path, one -> one.getLeaf() instanceof AssignmentTree set
                && set.getVariable().toString().equals("field")).size() > 0;
        return turnsBack && goesOn && !isSet;
    }

    private static void loops() {
        none("without a counter", source.all(path -> path.getLeaf() instanceof ForLoopTree loop
                && !isCounted(path, loop)));
        none("without a bound", source.all(path -> path.getLeaf() instanceof WhileLoopTree loop
                && !isBounded(loop)));
        none("of another form", source.all(path -> path.getLeaf() instanceof DoWhileLoopTree
                || path.getLeaf() instanceof EnhancedForLoopTree));
    }

    private static String name(Tree expression) {
        return bare(expression).toString();
    }

    private static boolean isUp(Tree.Kind kind) {
        return kind == Tree.Kind.POSTFIX_INCREMENT || kind == Tree.Kind.PREFIX_INCREMENT;
    }

    private static boolean isDown(Tree.Kind kind) {
        return kind == Tree.Kind.POSTFIX_DECREMENT || kind == Tree.Kind.PREFIX_DECREMENT;
    }

    /** It counts up to less than a bound, or down to more than one, and nothing else changes the counter. */
    private static boolean isCounted(TreePath path, ForLoopTree loop) {
        if (loop.getUpdate().size() != 1 || !(loop.getCondition() instanceof BinaryTree condition)
                || !(loop.getUpdate().get(0).getExpression() instanceof UnaryTree update)) {
            return false;
        }
        String counter = name(update.getExpression());
        boolean isUp = isUp(update.getKind()) && (condition.getKind() == Tree.Kind.LESS_THAN
                || condition.getKind() == Tree.Kind.LESS_THAN_EQUAL);
        boolean isDown = isDown(update.getKind()) && condition.getKind() == Tree.Kind.GREATER_THAN;
        return (isUp || isDown) && name(condition.getLeftOperand()).equals(counter)
                && changesOf(path, counter) == 1;
    }

    private static int changesOf(TreePath loop, String counter) {
        Predicate<TreePath> isChange = path ->
                path.getLeaf() instanceof AssignmentTree set && name(set.getVariable()).equals(counter)
                || path.getLeaf() instanceof CompoundAssignmentTree change && name(change.getVariable()).equals(counter)
                || path.getLeaf() instanceof UnaryTree step && (isUp(step.getKind()) || isDown(step.getKind()))
                        && name(step.getExpression()).equals(counter);
        return source.inside(loop, isChange).size();
    }

    /** One part of its condition is a counter below a bound, and the counter goes up in each round. */
    private static boolean isBounded(WhileLoopTree loop) {
        if (!(bare(loop.getCondition()) instanceof BinaryTree both) || both.getKind() != Tree.Kind.CONDITIONAL_AND
                || !(bare(both.getLeftOperand()) instanceof BinaryTree bound)
                || bound.getKind() != Tree.Kind.LESS_THAN || constant(bound.getRightOperand()) <= 0
                || !(loop.getStatement() instanceof BlockTree block)) {
            return false;
        }
        String counter = name(bound.getLeftOperand());
        boolean isSkipped = block.toString().contains("continue");
        return !isSkipped && block.getStatements().stream().anyMatch(
                step -> step instanceof ExpressionStatementTree && step.toString().trim().equals(counter + "++;"));
    }

    private static void joining() {
        none("texts", source.all(path -> path.getLeaf().getKind() == Tree.Kind.PLUS
                && !NUMBERS.contains(kindOf((ExpressionTree) path.getLeaf()))));
        none("texts in place", source.all(path -> path.getLeaf().getKind() == Tree.Kind.PLUS_ASSIGNMENT
                && !NUMBERS.contains(kindOf((ExpressionTree) path.getLeaf()))));
    }

    private static void sizes() {
        CHECK.same("classes", source.all(ClassTree.class).size() <= MOST_CLASSES, true);
        for (TreePath path : source.all(ClassTree.class)) {
            long fields = ((ClassTree) path.getLeaf()).getMembers().stream().filter(
                    member -> member instanceof VariableTree && !isStatic(source.meaning(member))).count();
            CHECK.same("fields of " + source.meaning(path), fields <= MOST_FIELDS, true);
        }
        for (TreePath path : source.all(MethodTree.class)) {
            MethodTree method = (MethodTree) path.getLeaf();
            CHECK.same("parameters of " + method.getName(), method.getParameters().size() <= MOST_PARAMETERS, true);
            long lines = source.isWritten(path) ? source.lastLine(method) - source.line(method) + 1 : 0;
            CHECK.same("lines of " + method.getName(), lines <= MOST_LINES, true);
        }
        for (ExecutableElement method : source.methods()) {
            int depth = source.depthOf(method);
            CHECK.same("depth of " + method + ": " + depth, depth <= DEEPEST, true);
        }
    }

    private static void making() {
        none("made by a call", source.all(path -> (path.getLeaf() instanceof NewClassTree
                || path.getLeaf() instanceof NewArrayTree) && !isMadeOnce(path)));
    }

    private static boolean isMadeOnce(TreePath path) {
        TreePath method = Source.around(path, MethodTree.class);
        return method == null || Source.isConstructor(source.meaning(method))
                || path.getParentPath().getLeaf() instanceof ThrowTree;
    }

    private static void constructors() {
        for (TreePath path : source.all(MethodTree.class)) {
            if (Source.isConstructor(source.meaning(path))) {
                none("called", source.inside(path, one -> one.getLeaf() instanceof MethodInvocationTree
                        && !Source.isSuperCall(one.getLeaf())));
                none("handed out", source.inside(path, one -> one.getLeaf().toString().equals("this")));
            }
        }
    }

    /** Each heading as the document has it, ahead of its first call, with all of its calls up to the next one. */
    private static void headings() {
        String[] headings = {"rules", "what they decide", "the tree", "packets", "the copy",
            "what would be (nothing is changed)"};
        String[] due = {"rule narrow turn move drop setLast shrink rules ofRule",
            "decides allowed state coveredBy shared quarrels decider", "nodes ofNode piece steps meanSteps",
            "send sent kept forget", "copy changed witness", "allowedWithout changedByMove digest"};
        String text = source.text();
        for (int i = 0; i < headings.length; i++) {
            int from = text.indexOf("    // ---- " + headings[i] + "\n");
            CHECK.same("there is: " + headings[i], from >= 0, true);
            int to = i + 1 < headings.length ? text.indexOf("    // ---- " + headings[i + 1] + "\n") : text.length();
            CHECK.same("calls behind: " + headings[i], openMethodsBetween(from, to), due[i]);
        }
    }

    private static String openMethodsBetween(int from, int to) {
        return source.all(MethodTree.class).stream()
                .filter(path -> Source.has(source.meaning(path), Modifier.PUBLIC))
                .filter(path -> source.startOf(path.getLeaf()) > from && source.startOf(path.getLeaf()) < to)
                .map(path -> ((MethodTree) path.getLeaf()).getName().toString()).collect(Collectors.joining(" "));
    }
}
