import com.sun.source.tree.BinaryTree;
import com.sun.source.tree.ClassTree;
import com.sun.source.tree.CompilationUnitTree;
import com.sun.source.tree.CompoundAssignmentTree;
import com.sun.source.tree.ExpressionTree;
import com.sun.source.tree.ImportTree;
import com.sun.source.tree.LineMap;
import com.sun.source.tree.MethodInvocationTree;
import com.sun.source.tree.MethodTree;
import com.sun.source.tree.NewClassTree;
import com.sun.source.tree.ThrowTree;
import com.sun.source.tree.Tree;
import com.sun.source.tree.VariableTree;
import com.sun.source.util.JavacTask;
import com.sun.source.util.TreePath;
import com.sun.source.util.TreePathScanner;
import com.sun.source.util.Trees;
import java.io.IOException;
import java.nio.file.Path;
import java.util.ArrayList;
import java.util.EnumSet;
import java.util.HashSet;
import java.util.LinkedHashMap;
import java.util.LinkedHashSet;
import java.util.List;
import java.util.Map;
import java.util.Set;
import javax.lang.model.element.Element;
import javax.lang.model.element.Modifier;
import javax.lang.model.element.TypeElement;
import javax.tools.JavaCompiler;
import javax.tools.StandardJavaFileManager;
import javax.tools.ToolProvider;

/** The rules of ../shared/LANGUAGE.md that can be seen in the source of the program; FaceTest has rule 1. */
public final class LanguageTest {
    private static final Path SOURCE = Path.of("src", "main", "java", "LampStrip.java");
    private static final int DEEPEST_CALLS = 8;
    private static final int MOST_CLASSES = 12;
    private static final int MOST_LINES = 60;
    private static final int MOST_PARAMETERS = 7;

    private static final Set<String> IMPORTS = Set.of("java.util.Arrays", "java.util.NoSuchElementException");
    // Only what the program uses of what rule 4 allows.
    private static final Set<String> LIBRARY = Set.of("java.lang.String.length", "java.lang.String.charAt",
            "java.lang.Math.max", "java.lang.Math.min", "java.lang.Long.bitCount", "java.lang.System.arraycopy",
            "java.util.Arrays.fill", "java.util.Arrays.copyOf", "java.lang.Object.<init>");
    private static final Set<String> EXCEPTIONS = Set.of("IllegalArgumentException", "IndexOutOfBoundsException",
            "IllegalStateException", "NoSuchElementException");
    private static final Set<String> TYPES = Set.of("int", "long", "boolean", "byte", "char", "double", "String",
            "int[]", "long[]", "byte[]", "Strip", "Strip[]", "Dimmer", "Sum", "Text", "Setup", "Script", "History");
    // try is allowed round calls that throw, but the program does without.
    private static final Set<Tree.Kind> RULED_OUT = EnumSet.of(Tree.Kind.LAMBDA_EXPRESSION,
            Tree.Kind.MEMBER_REFERENCE, Tree.Kind.TRY, Tree.Kind.SYNCHRONIZED, Tree.Kind.ASSERT);

    private final Map<String, Set<String>> calls = new LinkedHashMap<>();
    private final Map<String, Boolean> isPrivate = new LinkedHashMap<>();
    private Trees trees;

    private LanguageTest() {
    }

    public static void main(String[] args) throws IOException {
        new LanguageTest().check();
        Checks.end();
    }

    private void check() throws IOException {
        JavaCompiler compiler = ToolProvider.getSystemJavaCompiler();
        try (StandardJavaFileManager files = compiler.getStandardFileManager(null, null, null)) {
            JavacTask task = (JavacTask) compiler.getTask(null, files, null, List.of("-proc:none"), null,
                    files.getJavaFileObjects(SOURCE));
            trees = Trees.instance(task);
            CompilationUnitTree unit = task.parse().iterator().next();
            task.analyze();
            Checks.dueTrue("no package", unit.getPackageName() == null);
            Checks.due("classes of the file ahead of those inside", unit.getTypeDecls().size(), 1);
            for (ImportTree each : unit.getImports()) {
                Checks.dueTrue("allowed: " + each, IMPORTS.contains(each.getQualifiedIdentifier().toString()));
            }
            Reader reader = new Reader(unit);
            reader.scan(unit, null);
            Checks.dueTrue("at most 12 classes: " + reader.classes, reader.classes <= MOST_CLASSES);
        }
        checkCalls();
    }

    /** Recursion is among private methods, and other calls are at most so deep. */
    private void checkCalls() {
        for (String method : calls.keySet()) {
            List<String> chain = longestFrom(method, Set.of());
            Checks.dueTrue("at most 8 deep: " + chain, chain.size() <= DEEPEST_CALLS);
            Checks.dueTrue("private, as it calls itself: " + method,
                    isPrivate.get(method) || !reachable(method).contains(method));
        }
    }

    private List<String> longestFrom(String method, Set<String> open) {
        Set<String> nowOpen = new HashSet<>(open);
        nowOpen.add(method);
        List<String> longest = List.of();
        for (String called : calls.getOrDefault(method, Set.of())) {
            if (!nowOpen.contains(called)) {
                List<String> chain = longestFrom(called, nowOpen);
                longest = chain.size() > longest.size() ? chain : longest;
            }
        }
        List<String> whole = new ArrayList<>(List.of(method));
        whole.addAll(longest);
        return whole;
    }

    private Set<String> reachable(String method) {
        Set<String> reached = new LinkedHashSet<>(calls.get(method));
        int before;
        do {
            before = reached.size();
            for (String each : List.copyOf(reached)) {
                reached.addAll(calls.getOrDefault(each, Set.of()));
            }
        } while (reached.size() > before);
        return reached;
    }

    /** Goes through the source once. */
    private final class Reader extends TreePathScanner<Void, Void> {
        private final CompilationUnitTree unit;
        private String method = "";
        private int classes = 0;

        Reader(CompilationUnitTree unit) {
            this.unit = unit;
        }

        @Override
        public Void scan(Tree tree, Void nothing) {
            if (tree != null) {
                Checks.dueTrue(at(tree) + "allowed: " + tree.getKind(), !RULED_OUT.contains(tree.getKind()));
            }
            return super.scan(tree, nothing);
        }

        @Override
        public Void visitClass(ClassTree tree, Void nothing) {
            classes++;
            Set<Modifier> modifiers = tree.getModifiers().getFlags();
            Checks.dueTrue(at(tree) + "a plain class", tree.getKind() == Tree.Kind.CLASS
                    && tree.getExtendsClause() == null && tree.getImplementsClause().isEmpty());
            Checks.dueTrue(at(tree) + "private and static", classes == 1
                    || modifiers.contains(Modifier.STATIC) && modifiers.contains(Modifier.PRIVATE));
            for (Tree member : tree.getMembers()) {
                Checks.dueTrue(at(member) + "no initialiser block", member.getKind() != Tree.Kind.BLOCK);
            }
            return super.visitClass(tree, nothing);
        }

        @Override
        public Void visitMethod(MethodTree tree, Void nothing) {
            method = nameOf(trees.getElement(getCurrentPath()));
            calls.computeIfAbsent(method, any -> new LinkedHashSet<>());
            isPrivate.put(method, tree.getModifiers().getFlags().contains(Modifier.PRIVATE));
            LineMap lines = unit.getLineMap();
            long first = lines.getLineNumber(trees.getSourcePositions().getStartPosition(unit, tree));
            long last = lines.getLineNumber(Math.max(0, trees.getSourcePositions().getEndPosition(unit, tree)));
            Checks.dueTrue("some 60 lines: " + method, last - first < MOST_LINES);
            Checks.dueTrue("at most 7 parameters: " + method, tree.getParameters().size() <= MOST_PARAMETERS);
            super.visitMethod(tree, nothing);
            method = "";
            return null;
        }

        @Override
        public Void visitVariable(VariableTree tree, Void nothing) {
            Checks.dueTrue(at(tree) + "an allowed type: " + tree, TYPES.contains(tree.getType().toString()));
            Set<Modifier> modifiers = tree.getModifiers().getFlags();
            Checks.dueTrue(at(tree) + "a constant: " + tree, !modifiers.contains(Modifier.STATIC)
                    || modifiers.contains(Modifier.FINAL) && tree.getInitializer() != null);
            return super.visitVariable(tree, nothing);
        }

        @Override
        public Void visitMethodInvocation(MethodInvocationTree tree, Void nothing) {
            addCall(trees.getElement(new TreePath(getCurrentPath(), tree.getMethodSelect())), tree);
            return super.visitMethodInvocation(tree, nothing);
        }

        @Override
        public Void visitNewClass(NewClassTree tree, Void nothing) {
            Checks.dueTrue(at(tree) + "no body of its own", tree.getClassBody() == null);
            Element made = trees.getElement(getCurrentPath());
            if (isOfProgram(made)) {
                addCall(made, tree);
            } else {
                Checks.dueTrue(at(tree) + "only thrown: " + tree,
                        getCurrentPath().getParentPath().getLeaf().getKind() == Tree.Kind.THROW);
            }
            return super.visitNewClass(tree, nothing);
        }

        @Override
        public Void visitThrow(ThrowTree tree, Void nothing) {
            ExpressionTree thrown = tree.getExpression();
            Checks.dueTrue(at(tree) + "an exception that is due: " + thrown, thrown instanceof NewClassTree
                    && EXCEPTIONS.contains(((NewClassTree) thrown).getIdentifier().toString()));
            Checks.dueTrue(at(tree) + "not in a constructor", !method.endsWith("<init>"));
            return super.visitThrow(tree, nothing);
        }

        @Override
        public Void visitBinary(BinaryTree tree, Void nothing) {
            Checks.dueTrue(at(tree) + "no texts joined by +", !isText(tree));
            return super.visitBinary(tree, nothing);
        }

        @Override
        public Void visitCompoundAssignment(CompoundAssignmentTree tree, Void nothing) {
            Checks.dueTrue(at(tree) + "no texts joined by +=", !isText(tree));
            return super.visitCompoundAssignment(tree, nothing);
        }

        private void addCall(Element called, Tree tree) {
            if (isOfProgram(called)) {
                // A row's own maker is called by each constructor of its class.
                calls.computeIfAbsent(method.isEmpty() ? ownerOf() + ".<init>" : method,
                        any -> new LinkedHashSet<>()).add(nameOf(called));
            } else {
                Checks.dueTrue(at(tree) + "of the allowed library: " + nameOf(called),
                        LIBRARY.contains(nameOf(called)));
            }
        }

        private String ownerOf() {
            TreePath path = getCurrentPath();
            while (!(path.getLeaf() instanceof ClassTree)) {
                path = path.getParentPath();
            }
            return ((TypeElement) trees.getElement(path)).getQualifiedName().toString();
        }

        private boolean isOfProgram(Element element) {
            return nameOf(element).startsWith("LampStrip.");
        }

        private String nameOf(Element element) {
            return ((TypeElement) element.getEnclosingElement()).getQualifiedName() + "." + element.getSimpleName();
        }

        private boolean isText(Tree tree) {
            return String.valueOf(trees.getTypeMirror(trees.getPath(unit, tree))).equals("java.lang.String");
        }

        private String at(Tree tree) {
            long start = trees.getSourcePositions().getStartPosition(unit, tree);
            return "line " + (start < 0 ? 0 : unit.getLineMap().getLineNumber(start)) + ": ";
        }
    }
}
