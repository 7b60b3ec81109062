import com.sun.source.tree.*;
import com.sun.source.util.JavacTask;
import com.sun.source.util.SourcePositions;
import com.sun.source.util.TreePath;
import com.sun.source.util.TreePathScanner;
import com.sun.source.util.Trees;
import java.io.IOException;
import java.nio.file.Files;
import java.nio.file.Path;
import java.nio.file.Paths;
import java.util.List;
import java.util.Map;
import java.util.Set;
import java.util.TreeMap;
import java.util.TreeSet;
import java.util.stream.Collectors;
import java.util.stream.Stream;
import javax.lang.model.element.Modifier;
import javax.tools.JavaCompiler;
import javax.tools.StandardJavaFileManager;
import javax.tools.ToolProvider;

/**
 * The program keeps to ../shared/LANGUAGE.md, as far as its text shows. The lists here are what the
 * program uses; they are shorter than those of LANGUAGE.md, and can be made longer up to them.
 */
public final class LanguageTest {
    private static final Path FOLDER = Paths.get("src/main/java");
    private static final Path PROGRAM = FOLDER.resolve("TrenchBook.java");

    private static final Set<String> TYPES = Set.of("int", "long", "boolean", "double", "void", "String",
        "int[]", "long[]");
    private static final Set<String> CONSTANT_TYPES = Set.of("int", "long", "boolean", "char", "String");
    private static final Set<String> LIBRARY = Set.of("Math.max", "Math.min", "Long.bitCount");
    private static final Set<String> THROWN = Set.of("IllegalStateException", "IllegalArgumentException",
        "IndexOutOfBoundsException");

    private static final int MOST_LINES = 60;
    private static final int MOST_PARAMETERS = 7;
    private static final int MOST_FIELDS = 20;
    private static final int MOST_CLASSES = 12;
    private static final int MOST_DEPTH = 8;

    private static int wrong = 0;

    public static void main(String[] args) throws IOException {
        checkFiles();
        checkSigns();
        new Reader().read();
        System.out.println(wrong == 0 ? "the program keeps to the language" : wrong + " rules are broken");
        System.exit(wrong == 0 ? 0 : 1);
    }

    private static void check(int rule, boolean holds, String what) {
        if (!holds) {
            wrong++;
            System.out.println("rule " + rule + ": " + what);
        }
    }

    private static void checkFiles() throws IOException {
        try (Stream<Path> walked = Files.walk(FOLDER)) {
            List<Path> files = walked.filter(Files::isRegularFile).collect(Collectors.toList());
            check(1, files.equals(List.of(PROGRAM)), "the program is one file, but there are " + files);
        }
    }

    private static void checkSigns() throws IOException {
        for (byte sign : Files.readAllBytes(PROGRAM)) {
            check(4, sign == '\n' || sign >= ' ' && sign < 127, "a sign has the number " + sign);
        }
    }

    /** Reads the program's tree, and checks it piece by piece. */
    private static final class Reader extends TreePathScanner<Void, Void> {
        private final Set<String> classes = new TreeSet<>();
        private final Set<String> methods = new TreeSet<>();
        private final Map<String, Set<String>> calls = new TreeMap<>();
        private CompilationUnitTree program;
        private LineMap lines;
        private SourcePositions places;

        void read() throws IOException {
            JavaCompiler compiler = ToolProvider.getSystemJavaCompiler();
            try (StandardJavaFileManager files = compiler.getStandardFileManager(null, null, null)) {
                JavacTask task = (JavacTask) compiler.getTask(null, files, null,
                    List.of("--release", "17"), null, files.getJavaFileObjects(PROGRAM));
                program = task.parse().iterator().next();
                lines = program.getLineMap();
                places = Trees.instance(task).getSourcePositions();
                gatherNames();
                checkUnit();
                scan(program, null);
                for (String method : methods) {
                    checkDepth(method, new TreeSet<>());
                }
            }
        }

        private void gatherNames() {
            new TreePathScanner<Void, Void>() {
                @Override
                public Void visitClass(ClassTree tree, Void none) {
                    classes.add(tree.getSimpleName().toString());
                    return super.visitClass(tree, none);
                }

                @Override
                public Void visitMethod(MethodTree tree, Void none) {
                    methods.add(tree.getName().toString());
                    return super.visitMethod(tree, none);
                }
            }.scan(program, null);
        }

        private void checkUnit() {
            check(1, program.getPackageName() == null, "there is a package line");
            check(4, program.getImports().isEmpty(), "something is imported: " + program.getImports());
            check(1, program.getTypeDecls().size() == 1, "there is a class beside the public one");
            check(11, classes.size() <= MOST_CLASSES, "there are too many classes: " + classes);
        }

        private String at(Tree tree) {
            return "line " + lines.getLineNumber(places.getStartPosition(program, tree)) + ": ";
        }

        private long linesOf(Tree tree) {
            return lines.getLineNumber(places.getEndPosition(program, tree))
                - lines.getLineNumber(places.getStartPosition(program, tree)) + 1;
        }

        // -- classes and their members

        @Override
        public Void visitClass(ClassTree tree, Void none) {
            boolean isInside = getCurrentPath().getParentPath().getLeaf() != program;
            Set<Modifier> modifiers = tree.getModifiers().getFlags();
            if (isInside) {
                check(1, modifiers.contains(Modifier.STATIC), at(tree) + "a class inside is not static");
                check(1, !modifiers.contains(Modifier.PUBLIC) && !modifiers.contains(Modifier.PROTECTED),
                    at(tree) + "a class inside is shown");
            }
            int fields = 0;
            for (Tree member : tree.getMembers()) {
                check(5, member.getKind() != Tree.Kind.BLOCK, at(member) + "an initialiser block");
                if (member instanceof VariableTree) {
                    fields += isStatic((VariableTree) member) ? 0 : 1;
                }
            }
            check(11, fields <= MOST_FIELDS, at(tree) + "a class has too many fields: " + fields);
            return super.visitClass(tree, none);
        }

        private static boolean isStatic(VariableTree tree) {
            return tree.getModifiers().getFlags().contains(Modifier.STATIC);
        }

        @Override
        public Void visitMethod(MethodTree tree, Void none) {
            check(11, tree.getParameters().size() <= MOST_PARAMETERS, at(tree) + "too many parameters");
            check(11, linesOf(tree) <= MOST_LINES, at(tree) + "too many lines: " + linesOf(tree));
            String name = tree.getName().toString();
            check(6, !Set.of("equals", "hashCode", "toString").contains(name), at(tree) + name);
            check(6, !tree.getModifiers().getFlags().contains(Modifier.SYNCHRONIZED), at(tree) + name);
            if (tree.getReturnType() != null) {
                checkType(tree.getReturnType());
            }
            return super.visitMethod(tree, none);
        }

        @Override
        public Void visitVariable(VariableTree tree, Void none) {
            checkType(tree.getType());
            if (isStatic(tree)) {
                check(5, tree.getModifiers().getFlags().contains(Modifier.FINAL),
                    at(tree) + "a static field is not final");
                check(5, CONSTANT_TYPES.contains(tree.getType().toString()),
                    at(tree) + "a static field is no constant: " + tree.getType());
            }
            return super.visitVariable(tree, none);
        }

        private void checkType(Tree type) {
            String name = type.toString();
            check(3, TYPES.contains(name) || classes.contains(name), at(type) + "the type " + name);
        }

        // -- exceptions

        @Override
        public Void visitThrow(ThrowTree tree, Void none) {
            check(6, !isInConstructor(), at(tree) + "a throw in a constructor");
            boolean isNew = tree.getExpression() instanceof NewClassTree;
            check(6, isNew, at(tree) + "what is thrown is not new");
            if (isNew) {
                NewClassTree made = (NewClassTree) tree.getExpression();
                check(6, THROWN.contains(made.getIdentifier().toString()), at(tree) + made);
                check(6, made.getArguments().size() == 1 && made.getArguments().get(0) instanceof LiteralTree,
                    at(tree) + "the text is not a written one");
            }
            return super.visitThrow(tree, none);
        }

        @Override
        public Void visitTry(TryTree tree, Void none) {
            check(6, false, at(tree) + "a try");
            return super.visitTry(tree, none);
        }

        @Override
        public Void visitSynchronized(SynchronizedTree tree, Void none) {
            check(6, false, at(tree) + "a synchronized block");
            return super.visitSynchronized(tree, none);
        }

        @Override
        public Void visitAssert(AssertTree tree, Void none) {
            check(6, false, at(tree) + "an assert");
            return super.visitAssert(tree, none);
        }

        // -- what is made

        @Override
        public Void visitNewClass(NewClassTree tree, Void none) {
            boolean isThrown = getCurrentPath().getParentPath().getLeaf() instanceof ThrowTree;
            check(12, isThrown || isInConstructor(), at(tree) + "a call makes an object");
            check(2, tree.getClassBody() == null, at(tree) + "an anonymous class");
            return super.visitNewClass(tree, none);
        }

        @Override
        public Void visitNewArray(NewArrayTree tree, Void none) {
            check(12, !isInMethod(), at(tree) + "a call makes an array");
            return super.visitNewArray(tree, none);
        }

        private boolean isInConstructor() {
            MethodTree method = methodAround();
            return method != null && method.getName().contentEquals("<init>");
        }

        private boolean isInMethod() {
            return methodAround() != null;
        }

        private MethodTree methodAround() {
            for (TreePath path = getCurrentPath(); path != null; path = path.getParentPath()) {
                if (path.getLeaf() instanceof MethodTree) {
                    return (MethodTree) path.getLeaf();
                }
            }
            return null;
        }

        @Override
        public Void visitLambdaExpression(LambdaExpressionTree tree, Void none) {
            check(2, false, at(tree) + "a lambda");
            return super.visitLambdaExpression(tree, none);
        }

        @Override
        public Void visitMemberReference(MemberReferenceTree tree, Void none) {
            check(2, false, at(tree) + "a method reference");
            return super.visitMemberReference(tree, none);
        }

        // -- loops and calls

        @Override
        public Void visitForLoop(ForLoopTree tree, Void none) {
            check(9, tree.getCondition() != null && !(tree.getCondition() instanceof LiteralTree)
                && tree.getUpdate().size() == 1, at(tree) + "a loop without a counter against a bound");
            return super.visitForLoop(tree, none);
        }

        @Override
        public Void visitWhileLoop(WhileLoopTree tree, Void none) {
            check(9, false, at(tree) + "a loop without a counter");
            return super.visitWhileLoop(tree, none);
        }

        @Override
        public Void visitDoWhileLoop(DoWhileLoopTree tree, Void none) {
            check(9, false, at(tree) + "a loop without a counter");
            return super.visitDoWhileLoop(tree, none);
        }

        @Override
        public Void visitMethodInvocation(MethodInvocationTree tree, Void none) {
            String selected = tree.getMethodSelect().toString();
            String name = selected.substring(selected.lastIndexOf('.') + 1);
            check(4, LIBRARY.contains(selected) || methods.contains(name), at(tree) + "a call of " + selected);
            MethodTree caller = methodAround();
            check(12, caller != null, at(tree) + "a call outside of a method");
            if (caller != null) {
                calls.computeIfAbsent(caller.getName().toString(), unused -> new TreeSet<>()).add(name);
            }
            return super.visitMethodInvocation(tree, none);
        }

        /** Methods are told apart by their names alone, so that calls look deeper here than they are. */
        private int checkDepth(String method, Set<String> open) {
            if (!open.add(method)) {
                check(8, false, method + " calls itself, by way of " + open);
                return 0;
            }
            int below = 0;
            for (String called : calls.getOrDefault(method, Set.of())) {
                below = Math.max(below, checkDepth(called, open));
            }
            open.remove(method);
            check(11, below + 1 <= MOST_DEPTH, method + " calls " + (below + 1) + " deep");
            return below + 1;
        }
    }
}
