import com.sun.source.tree.ArrayAccessTree;
import com.sun.source.tree.AssertTree;
import com.sun.source.tree.BinaryTree;
import com.sun.source.tree.BlockTree;
import com.sun.source.tree.ClassTree;
import com.sun.source.tree.CompilationUnitTree;
import com.sun.source.tree.CompoundAssignmentTree;
import com.sun.source.tree.DoWhileLoopTree;
import com.sun.source.tree.ExpressionTree;
import com.sun.source.tree.ForLoopTree;
import com.sun.source.tree.InstanceOfTree;
import com.sun.source.tree.LambdaExpressionTree;
import com.sun.source.tree.LiteralTree;
import com.sun.source.tree.MemberReferenceTree;
import com.sun.source.tree.MethodInvocationTree;
import com.sun.source.tree.MethodTree;
import com.sun.source.tree.NewArrayTree;
import com.sun.source.tree.NewClassTree;
import com.sun.source.tree.SynchronizedTree;
import com.sun.source.tree.ThrowTree;
import com.sun.source.tree.Tree;
import com.sun.source.tree.TryTree;
import com.sun.source.tree.TypeCastTree;
import com.sun.source.tree.VariableTree;
import com.sun.source.tree.WhileLoopTree;
import com.sun.source.util.JavacTask;
import com.sun.source.util.TreePath;
import com.sun.source.util.TreePathScanner;
import com.sun.source.util.Trees;
import java.io.IOException;
import java.lang.reflect.Array;
import java.lang.reflect.Field;
import java.nio.file.Files;
import java.nio.file.Path;
import java.util.ArrayDeque;
import java.util.Deque;
import java.util.HashMap;
import java.util.IdentityHashMap;
import java.util.List;
import java.util.Map;
import java.util.Set;
import java.util.TreeMap;
import java.util.TreeSet;
import java.util.regex.Pattern;
import javax.lang.model.element.Element;
import javax.lang.model.element.ElementKind;
import javax.lang.model.element.Modifier;
import javax.lang.model.type.ArrayType;
import javax.lang.model.type.TypeKind;
import javax.lang.model.type.TypeMirror;
import javax.tools.JavaCompiler;
import javax.tools.StandardJavaFileManager;
import javax.tools.ToolProvider;

/**
 * LANGUAGE.md, rule by rule, against the tree that javac makes of the class. It is narrower than the rules, as the
 * class needs less: no lists, no texts, no try, no casts but among numbers, no while, no objects made by a call.
 */
public final class LanguageTest {
    private static final Path SOURCE = Path.of("src/main/java/CableLanding.java");
    private static final Set<String> LIBRARY = Set.of("java.lang.Math.max", "java.lang.Math.min");
    private static final Set<String> EXCEPTIONS = Set.of("java.lang.IllegalStateException",
            "java.lang.IllegalArgumentException", "java.lang.IndexOutOfBoundsException");
    private static final int MOST_LINES = 60;
    private static final int MOST_PARAMETERS = 7;
    private static final int MOST_FIELDS = 20;
    private static final int MOST_CLASSES = 12;
    private static final int DEEPEST = 8;
    private static final long MOST_CALLS = 512;
    private static final long ROOM_OF_OBJECTS = 600_000;
    private static final long ROOM_OF_FIELDS = 7_300_000;

    public static void main(String[] args) throws IOException, IllegalAccessException {
        JavaCompiler compiler = ToolProvider.getSystemJavaCompiler();
        try (StandardJavaFileManager files = compiler.getStandardFileManager(null, null, null)) {
            JavacTask task = (JavacTask) compiler.getTask(null, files, null, List.of("-proc:none"), null,
                    files.getJavaFileObjects(SOURCE));
            CompilationUnitTree unit = task.parse().iterator().next();
            task.analyze();
            Rules rules = new Rules(Trees.instance(task), unit);
            rules.scan(unit, null);
            rules.callsEnd();
        }
        signs();
        room();
        Check.end();
    }

    /** Rule 4: the signs of texts; rule 13: nothing that the tree could not show, either. */
    private static void signs() throws IOException {
        String source = Files.readString(SOURCE);
        boolean plain = true;
        for (char sign : source.toCharArray()) {
            plain = plain && (sign == '\n' || sign >= ' ' && sign <= 126);
        }
        Check.isTrue("rule 4: the signs of the source are 1 to 127", plain);
        Check.isTrue("rule 7: nothing is hidden from the compiler", !source.contains("@Suppress"));
    }

    /** Rule 12: even a new object for each call of a run, all of them kept, would find room. */
    private static void room() throws IllegalAccessException {
        Map<Object, Object> seen = new IdentityHashMap<>();
        Deque<Object> open = new ArrayDeque<>(List.of(new CableLanding()));
        long fields = 0;
        while (!open.isEmpty()) {
            Object each = open.pop();
            if (seen.put(each, each) == null) {
                fields += each.getClass().isArray() ? elements(each, open) : fields(each, open);
            }
        }
        Check.isTrue("rule 12: an object holds " + seen.size() + " objects", seen.size() * MOST_CALLS <= ROOM_OF_OBJECTS);
        Check.isTrue("rule 12: an object holds " + fields + " fields", fields * MOST_CALLS <= ROOM_OF_FIELDS);
    }

    private static int elements(Object array, Deque<Object> open) {
        int length = Array.getLength(array);
        for (int i = 0; i < length && !array.getClass().getComponentType().isPrimitive(); i++) {
            open.push(Array.get(array, i));
        }
        return length;
    }

    private static int fields(Object each, Deque<Object> open) throws IllegalAccessException {
        int fields = 0;
        for (Field field : each.getClass().getDeclaredFields()) {
            if (!java.lang.reflect.Modifier.isStatic(field.getModifiers())) {
                fields++;
                field.setAccessible(true);
                if (!field.getType().isPrimitive()) {
                    open.push(field.get(each));
                }
            }
        }
        return fields;
    }

    private static final class Rules extends TreePathScanner<Void, Void> {
        private final Trees trees;
        private final CompilationUnitTree unit;
        private final Set<String> face = new TreeSet<>();
        private final Map<String, Set<String>> calls = new TreeMap<>();
        private final Map<String, Integer> depths = new HashMap<>();
        private final Deque<String> open = new ArrayDeque<>();
        private int classes = 0;

        Rules(Trees trees, CompilationUnitTree unit) {
            this.trees = trees;
            this.unit = unit;
            rule(1, "one class in the file", unit.getTypeDecls().size() == 1);
            rule(1, "no package line", unit.getPackage() == null);
            rule(4, "no import", unit.getImports().isEmpty());
            for (Tree member : ((ClassTree) unit.getTypeDecls().get(0)).getMembers()) {
                if (member instanceof MethodTree method && method.getModifiers().getFlags().contains(Modifier.PUBLIC)) {
                    face.add(method.getName().toString());
                }
            }
        }

        private void rule(int number, String what, boolean holds) {
            Check.isTrue("rule " + number + ": " + what, holds);
        }

        private void never(int number, Tree tree) {
            rule(number, "line " + lineAt(trees.getSourcePositions().getStartPosition(unit, tree)) + " is ruled out",
                    false);
        }

        private long lineAt(long position) {
            return unit.getLineMap().getLineNumber(position);
        }

        private <T extends Tree> T enclosing(Class<T> kind) {
            for (TreePath path = getCurrentPath().getParentPath(); path != null; path = path.getParentPath()) {
                if (kind.isInstance(path.getLeaf())) {
                    return kind.cast(path.getLeaf());
                }
            }
            return null;
        }

        private Element elementOf(Tree tree) {
            return trees.getElement(TreePath.getPath(unit, tree));
        }

        private TypeMirror typeOf(Tree tree) {
            return trees.getTypeMirror(TreePath.getPath(unit, tree));
        }

        // ---- rules 1, 2 and 11: classes and their members

        @Override
        public Void visitClass(ClassTree tree, Void nothing) {
            classes++;
            Set<Modifier> flags = tree.getModifiers().getFlags();
            String name = tree.getSimpleName().toString();
            if (enclosing(ClassTree.class) == null) {
                rule(1, "public and final", flags.equals(Set.of(Modifier.PUBLIC, Modifier.FINAL)));
            } else {
                rule(2, name + " is private or package-visible and static", flags.contains(Modifier.STATIC)
                        && !flags.contains(Modifier.PUBLIC) && !flags.contains(Modifier.PROTECTED));
                rule(2, name + " stands in a class", getCurrentPath().getParentPath().getLeaf() instanceof ClassTree);
                rule(12, name + " has no class below it", flags.contains(Modifier.FINAL));
            }
            int fields = 0;
            for (Tree member : tree.getMembers()) {
                rule(5, name + " has no initialiser block", !(member instanceof BlockTree));
                if (member instanceof VariableTree field) {
                    fields += field.getModifiers().getFlags().contains(Modifier.STATIC) ? 0 : 1;
                }
            }
            rule(11, name + " has some twenty fields", fields <= MOST_FIELDS);
            rule(11, "some twelve classes", classes <= MOST_CLASSES);
            return super.visitClass(tree, nothing);
        }

        @Override
        public Void visitMethod(MethodTree tree, Void nothing) {
            Set<Modifier> flags = tree.getModifiers().getFlags();
            String name = nameOf(elementOf(tree));
            boolean isPrivate = flags.contains(Modifier.PRIVATE);
            boolean outside = elementOf(tree).getEnclosingElement().getSimpleName().contentEquals("CableLanding");
            rule(1, name + " is public or private", !outside || flags.contains(Modifier.PUBLIC) || isPrivate);
            rule(1, name + " is not named as one of the face",
                    flags.contains(Modifier.PUBLIC) || !face.contains(tree.getName().toString())
                            || tree.getReturnType() == null);
            Tree answer = tree.getReturnType();
            rule(3, name + " answers an allowed type",
                    answer == null || typeOf(answer).getKind() == TypeKind.VOID || isAllowed(typeOf(answer)));
            rule(11, name + " takes seven parameters", tree.getParameters().size() <= MOST_PARAMETERS);
            long first = lineAt(trees.getSourcePositions().getStartPosition(unit, tree));
            long last = lineAt(trees.getSourcePositions().getEndPosition(unit, tree));
            rule(11, name + " is short", last - first < MOST_LINES);
            rule(8, name + " is the only one of its name", calls.putIfAbsent(name, new TreeSet<>()) == null);
            return super.visitMethod(tree, nothing);
        }

        @Override
        public Void visitVariable(VariableTree tree, Void nothing) {
            Element element = elementOf(tree);
            rule(3, tree.getName() + " has an allowed type", isAllowed(typeOf(tree)));
            if (element.getKind() == ElementKind.FIELD && element.getModifiers().contains(Modifier.STATIC)) {
                rule(5, tree.getName() + " is a constant", element.getModifiers().contains(Modifier.FINAL)
                        && typeOf(tree).getKind() == TypeKind.INT && tree.getInitializer() != null);
            }
            return super.visitVariable(tree, nothing);
        }

        /** Whole numbers, signs, truth, own classes, and rows of them; doubles and floats are not needed. */
        private boolean isAllowed(TypeMirror type) {
            if (type.getKind() == TypeKind.ARRAY) {
                TypeMirror element = ((ArrayType) type).getComponentType();
                return element.getKind() != TypeKind.ARRAY && element.getKind() != TypeKind.LONG && isAllowed(element);
            }
            return Set.of(TypeKind.INT, TypeKind.LONG, TypeKind.CHAR, TypeKind.BOOLEAN).contains(type.getKind())
                    || type.toString().startsWith("CableLanding.");
        }

        // ---- rules 4, 6 and 12: calls, exceptions, objects

        @Override
        public Void visitMethodInvocation(MethodInvocationTree tree, Void nothing) {
            Element called = elementOf(tree);
            String name = nameOf(called);
            if (isOwn(called)) {
                addCall(name);
            } else {
                rule(4, name + " is one of the library", LIBRARY.contains(name) || name.equals("java.lang.Object.<init>"));
            }
            return super.visitMethodInvocation(tree, nothing);
        }

        @Override
        public Void visitNewClass(NewClassTree tree, Void nothing) {
            Element made = elementOf(tree);
            if (getCurrentPath().getParentPath().getLeaf() instanceof ThrowTree) {
                rule(6, nameOf(made) + " may be thrown", EXCEPTIONS.contains(made.getEnclosingElement().toString()));
                boolean written = tree.getArguments().size() <= 1;
                for (ExpressionTree argument : tree.getArguments()) {
                    written = written && argument instanceof LiteralTree;
                }
                rule(6, nameOf(made) + " with a written text", written);
            } else {
                rule(4, nameOf(made) + " is an own class", isOwn(made) && tree.getClassBody() == null);
                rule(12, nameOf(made) + " is made in a constructor", isInConstructor());
                addCall(nameOf(made));
            }
            return super.visitNewClass(tree, nothing);
        }

        @Override
        public Void visitNewArray(NewArrayTree tree, Void nothing) {
            rule(12, "a row is made in a constructor", isInConstructor());
            return super.visitNewArray(tree, nothing);
        }

        @Override
        public Void visitThrow(ThrowTree tree, Void nothing) {
            rule(6, "only a new exception is thrown", tree.getExpression() instanceof NewClassTree);
            rule(6, "no throw in a constructor", !isInConstructor());
            return super.visitThrow(tree, nothing);
        }

        /** What a field is given at its place is made by each constructor of its class. */
        private boolean isInConstructor() {
            MethodTree method = enclosing(MethodTree.class);
            return method == null || method.getReturnType() == null;
        }

        private void addCall(String name) {
            MethodTree method = enclosing(MethodTree.class);
            Tree from = method == null ? enclosing(ClassTree.class) : method;
            String caller = method == null ? elementOf(from) + ".<init>" : nameOf(elementOf(from));
            calls.computeIfAbsent(caller + (method == null ? " fields" : ""), key -> new TreeSet<>()).add(name);
        }

        private static boolean isOwn(Element element) {
            return element.getEnclosingElement().toString().startsWith("CableLanding");
        }

        private static String nameOf(Element method) {
            return method.getEnclosingElement() + "." + method.getSimpleName();
        }

        // ---- rules 8 and 11: how deep calls go

        void callsEnd() {
            for (String from : calls.keySet()) {
                rule(11, from + " goes at most " + DEEPEST + " deep", depth(from) <= DEEPEST);
            }
            rule(11, "each class has its fields' calls counted", calls.size() > face.size());
        }

        private int depth(String from) {
            if (depths.containsKey(from)) {
                return depths.get(from);
            }
            if (open.contains(from)) {
                rule(8, from + " does not call itself", false);
                return 0;
            }
            open.push(from);
            int deepest = 0;
            for (String row : List.of(from, from + " fields")) {
                for (String to : calls.getOrDefault(row, Set.of())) {
                    deepest = Math.max(deepest, depth(to));
                }
            }
            open.pop();
            depths.put(from, deepest + 1);
            return deepest + 1;
        }

        // ---- rules 9 and 10: loops, texts, casts

        @Override
        public Void visitForLoop(ForLoopTree tree, Void nothing) {
            boolean bounded = tree.getCondition() != null
                    && Pattern.compile("<=?").matcher(tree.getCondition().toString()).find();
            rule(9, "a loop counts to a bound", bounded && tree.getUpdate().size() == 1);
            return super.visitForLoop(tree, nothing);
        }

        @Override
        public Void visitWhileLoop(WhileLoopTree tree, Void nothing) {
            never(9, tree);
            return super.visitWhileLoop(tree, nothing);
        }

        @Override
        public Void visitDoWhileLoop(DoWhileLoopTree tree, Void nothing) {
            never(9, tree);
            return super.visitDoWhileLoop(tree, nothing);
        }

        @Override
        public Void visitBinary(BinaryTree tree, Void nothing) {
            rule(10, "no texts are joined or compared", !isText(tree.getLeftOperand()) && !isText(tree.getRightOperand()));
            if (tree.getKind() == Tree.Kind.DIVIDE || tree.getKind() == Tree.Kind.REMAINDER) {
                divides(tree.getRightOperand());
            }
            return super.visitBinary(tree, nothing);
        }

        @Override
        public Void visitCompoundAssignment(CompoundAssignmentTree tree, Void nothing) {
            rule(10, "no texts are joined", !isText(tree.getVariable()));
            if (tree.getKind() == Tree.Kind.DIVIDE_ASSIGNMENT || tree.getKind() == Tree.Kind.REMAINDER_ASSIGNMENT) {
                divides(tree.getExpression());
            }
            return super.visitCompoundAssignment(tree, nothing);
        }

        private boolean isText(Tree tree) {
            return typeOf(tree).toString().equals("java.lang.String");
        }

        /** Rule 7: a divisor is a number that is written, or one that the same method has looked at: "name > 0". */
        private void divides(ExpressionTree divisor) {
            Element element = elementOf(divisor);
            boolean constant = divisor instanceof LiteralTree || element != null
                    && element.getModifiers().containsAll(Set.of(Modifier.STATIC, Modifier.FINAL));
            MethodTree method = enclosing(MethodTree.class);
            String body = method == null ? "" : method.getBody().toString();
            boolean tested = body.contains(divisor + " > 0") || body.contains(divisor + " <= 0");
            rule(7, divisor + " is looked at before it divides", constant || tested);
        }

        /** Rule 7: the method, or the method hasRoom that it asks, compares the index with the length of the row. */
        @Override
        public Void visitArrayAccess(ArrayAccessTree tree, Void nothing) {
            MethodTree method = enclosing(MethodTree.class);
            String body = method == null ? "" : method.getBody().toString();
            String length = tree.getExpression() + ".length";
            boolean tested = body.contains(tree.getIndex() + " < " + length)
                    || body.contains(tree.getIndex() + " >= " + length) || body.contains("if (hasRoom())");
            rule(7, tree + " is looked at before it is used", tested);
            return super.visitArrayAccess(tree, nothing);
        }

        @Override
        public Void visitTypeCast(TypeCastTree tree, Void nothing) {
            rule(6, "a cast is one of numbers", typeOf(tree.getType()).getKind().isPrimitive());
            return super.visitTypeCast(tree, nothing);
        }

        @Override
        public Void visitInstanceOf(InstanceOfTree tree, Void nothing) {
            never(6, tree);
            return super.visitInstanceOf(tree, nothing);
        }

        @Override
        public Void visitTry(TryTree tree, Void nothing) {
            never(6, tree);
            return super.visitTry(tree, nothing);
        }

        @Override
        public Void visitSynchronized(SynchronizedTree tree, Void nothing) {
            never(6, tree);
            return super.visitSynchronized(tree, nothing);
        }

        @Override
        public Void visitAssert(AssertTree tree, Void nothing) {
            never(6, tree);
            return super.visitAssert(tree, nothing);
        }

        @Override
        public Void visitLambdaExpression(LambdaExpressionTree tree, Void nothing) {
            never(2, tree);
            return super.visitLambdaExpression(tree, nothing);
        }

        @Override
        public Void visitMemberReference(MemberReferenceTree tree, Void nothing) {
            never(2, tree);
            return super.visitMemberReference(tree, nothing);
        }
    }
}
