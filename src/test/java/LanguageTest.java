import com.sun.source.tree.*;
import com.sun.source.util.JavacTask;
import com.sun.source.util.TreeScanner;
import com.sun.source.util.Trees;
import java.io.IOException;
import java.nio.file.Path;
import java.util.HashMap;
import java.util.HashSet;
import java.util.List;
import java.util.Map;
import java.util.Set;
import java.util.TreeSet;
import javax.lang.model.element.Modifier;
import javax.tools.JavaCompiler;
import javax.tools.StandardJavaFileManager;
import javax.tools.ToolProvider;

/** The rules of LANGUAGE.md that can be read off the source; rule 1 is FaceTest's. */
public final class LanguageTest {
    private static final Path SOURCE = Path.of("src/main/java/FlashStore.java");
    private static final Set<String> IMPORTS =
        Set.of("java.util.Arrays", "java.util.ArrayList", "java.util.List", "java.util.Iterator");
    private static final Set<String> EXCEPTIONS = Set.of("IllegalStateException", "IllegalArgumentException",
        "IndexOutOfBoundsException", "ArithmeticException", "UnsupportedOperationException",
        "NoSuchElementException", "RuntimeException");
    private static final Set<Tree.Kind> RULED_OUT = Set.of(Tree.Kind.LAMBDA_EXPRESSION, Tree.Kind.MEMBER_REFERENCE,
        Tree.Kind.SYNCHRONIZED, Tree.Kind.ASSERT);
    private static final Set<String> STATIC_TYPES =
        Set.of("int", "long", "boolean", "char", "String", "int[]", "long[]", "char[]", "byte[]");
    private static final Set<String> LIBRARY = Set.of("Arrays.fill", "Integer.bitCount", "Math.floorMod");
    private static final int MOST_LINES = 60;
    private static final int MOST_PARAMETERS = 7;
    private static final int MOST_DEPTH = 8;
    private static final int MOST_CLASSES = 12;
    private static final int MOST_FIELDS = 20;

    private static final Map<String, Set<String>> CALLS = new HashMap<>();

    public static void main(String[] args) throws IOException {
        JavaCompiler compiler = ToolProvider.getSystemJavaCompiler();
        try (StandardJavaFileManager files = compiler.getStandardFileManager(null, null, null)) {
            JavacTask task =
                (JavacTask) compiler.getTask(null, files, null, null, null, files.getJavaFileObjects(SOURCE));
            CompilationUnitTree unit = task.parse().iterator().next();
            new Reader(unit, Trees.instance(task)).scan(unit, null);
        }
        callsGoAtMostEightDeep();
        Check.close();
    }

    /** Rules 8 and 11: no method calls itself, also through others, and calls stay shallow. */
    private static void callsGoAtMostEightDeep() {
        for (String method : CALLS.keySet()) {
            int depth = depthFrom(method, new HashSet<>());
            holds(method + " goes " + depth + " calls deep", depth <= MOST_DEPTH);
        }
    }

    private static int depthFrom(String method, Set<String> open) {
        if (!open.add(method)) {
            holds(method + " calls itself", false);
            return 0;
        }
        int deepest = 0;
        for (String called : CALLS.getOrDefault(method, Set.of())) {
            deepest = Math.max(deepest, depthFrom(called, open));
        }
        open.remove(method);
        return 1 + deepest;
    }

    private static void holds(String what, boolean held) {
        Check.same(what, held, true);
    }

    /** Walks through the source once and checks each rule where its part of the source stands. */
    private static final class Reader extends TreeScanner<Void, Void> {
        private final CompilationUnitTree unit;
        private final Trees trees;
        private String method = "";
        private boolean inThrow = false;
        private boolean inField = false;
        private int classes = 0;

        Reader(CompilationUnitTree unit, Trees trees) {
            this.unit = unit;
            this.trees = trees;
        }

        @Override
        public Void scan(Tree tree, Void none) {
            if (tree != null) {
                holds(at(tree) + "rules 2 and 6 rule out " + tree.getKind(), !RULED_OUT.contains(tree.getKind()));
            }
            return super.scan(tree, none);
        }

        @Override
        public Void visitCompilationUnit(CompilationUnitTree tree, Void none) {
            holds("no package line", tree.getPackageName() == null);
            holds("one class in the file", tree.getTypeDecls().size() == 1);
            super.visitCompilationUnit(tree, none);
            holds("rule 11: " + classes + " classes", classes <= MOST_CLASSES);
            return null;
        }

        @Override
        public Void visitImport(ImportTree tree, Void none) {
            String name = tree.getQualifiedIdentifier().toString();
            holds(at(tree) + "rule 4: import " + name, IMPORTS.contains(name));
            return null;
        }

        @Override
        public Void visitClass(ClassTree tree, Void none) {
            classes++;
            int fields = 0;
            for (Tree member : tree.getMembers()) {
                holds(at(member) + "rule 5: no initialiser block", member.getKind() != Tree.Kind.BLOCK);
                if (member instanceof VariableTree field) {
                    fields += isStatic(field) ? 0 : 1;
                    checkField(field);
                } else {
                    scan(member, none);
                }
            }
            holds("rule 11: " + fields + " fields of " + tree.getSimpleName(), fields <= MOST_FIELDS);
            return null;
        }

        private boolean isStatic(VariableTree field) {
            return field.getModifiers().getFlags().contains(Modifier.STATIC);
        }

        private void checkField(VariableTree field) {
            if (isStatic(field)) {
                boolean isFinal = field.getModifiers().getFlags().contains(Modifier.FINAL);
                holds(at(field) + "rule 5: a static field is final", isFinal);
                holds(at(field) + "rule 5: " + field.getType(), STATIC_TYPES.contains(field.getType().toString()));
            }
            inField = true;
            scan(field, null);
            inField = false;
        }

        @Override
        public Void visitMethod(MethodTree tree, Void none) {
            method = tree.getName().toString();
            boolean isConstructor = tree.getReturnType() == null;
            holds(at(tree) + "a name of its own: " + method, isConstructor || !CALLS.containsKey(method));
            CALLS.putIfAbsent(method, new TreeSet<>());
            holds(at(tree) + "rule 11: parameters", tree.getParameters().size() <= MOST_PARAMETERS);
            holds(at(tree) + "rule 11: lines of " + method, linesOf(tree) <= MOST_LINES);
            return super.visitMethod(tree, none);
        }

        @Override
        public Void visitMethodInvocation(MethodInvocationTree tree, Void none) {
            ExpressionTree called = tree.getMethodSelect();
            String name = called instanceof MemberSelectTree member ? member.getIdentifier().toString()
                : called.toString();
            CALLS.computeIfAbsent(method, key -> new TreeSet<>()).add(name);
            if (called.toString().matches("(Arrays|Integer|Math|System|Long)\\..*")) {
                holds(at(tree) + "rule 4: " + called, LIBRARY.contains(called.toString()));
            }
            return super.visitMethodInvocation(tree, none);
        }

        @Override
        public Void visitThrow(ThrowTree tree, Void none) {
            boolean isNew = tree.getExpression() instanceof NewClassTree;
            holds(at(tree) + "rule 6: throw new", isNew);
            if (isNew) {
                NewClassTree made = (NewClassTree) tree.getExpression();
                List<? extends ExpressionTree> texts = made.getArguments();
                holds(at(tree) + "rule 6: " + made, EXCEPTIONS.contains(made.getIdentifier().toString()));
                holds(at(tree) + "rule 6: a written text", texts.isEmpty()
                    || texts.size() == 1 && texts.get(0).getKind() == Tree.Kind.STRING_LITERAL);
            }
            holds(at(tree) + "rule 6: no throw in a constructor", !method.equals("<init>"));
            inThrow = true;
            super.visitThrow(tree, none);
            inThrow = false;
            return null;
        }

        @Override
        public Void visitTry(TryTree tree, Void none) {
            holds(at(tree) + "the class needs no try (rule 6)", false);
            return super.visitTry(tree, none);
        }

        /** Rule 12, more narrowly: only constructors make what is kept, so a run's room does not grow. */
        @Override
        public Void visitNewClass(NewClassTree tree, Void none) {
            holds(at(tree) + "rule 12: " + tree, inThrow || inField);
            return super.visitNewClass(tree, none);
        }

        @Override
        public Void visitNewArray(NewArrayTree tree, Void none) {
            holds(at(tree) + "rule 12: " + tree, inField);
            return super.visitNewArray(tree, none);
        }

        /** Rule 9, more narrowly: every loop of the class counts against a bound. */
        @Override
        public Void visitForLoop(ForLoopTree tree, Void none) {
            String condition = String.valueOf(tree.getCondition());
            holds(at(tree) + "rule 9: " + condition, condition.matches("\\w+ (<|>=) \\w.*"));
            holds(at(tree) + "rule 9: a step", tree.getUpdate().size() == 1);
            return super.visitForLoop(tree, none);
        }

        @Override
        public Void visitWhileLoop(WhileLoopTree tree, Void none) {
            holds(at(tree) + "rule 9: a while has no counter", false);
            return super.visitWhileLoop(tree, none);
        }

        @Override
        public Void visitDoWhileLoop(DoWhileLoopTree tree, Void none) {
            holds(at(tree) + "rule 9: a do has no counter", false);
            return super.visitDoWhileLoop(tree, none);
        }

        private long lineOf(long position) {
            return unit.getLineMap().getLineNumber(position);
        }

        private long linesOf(Tree tree) {
            long first = lineOf(trees.getSourcePositions().getStartPosition(unit, tree));
            long end = trees.getSourcePositions().getEndPosition(unit, tree);
            return end < 0 ? 0 : lineOf(end) - first + 1;
        }

        private String at(Tree tree) {
            long start = trees.getSourcePositions().getStartPosition(unit, tree);
            return start < 0 ? "" : "line " + lineOf(start) + ": ";
        }
    }
}
