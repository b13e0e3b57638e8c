import com.sun.source.tree.ArrayAccessTree;
import com.sun.source.tree.AssignmentTree;
import com.sun.source.tree.BinaryTree;
import com.sun.source.tree.ClassTree;
import com.sun.source.tree.CompilationUnitTree;
import com.sun.source.tree.CompoundAssignmentTree;
import com.sun.source.tree.DoWhileLoopTree;
import com.sun.source.tree.ExpressionTree;
import com.sun.source.tree.ForLoopTree;
import com.sun.source.tree.ImportTree;
import com.sun.source.tree.LiteralTree;
import com.sun.source.tree.MethodInvocationTree;
import com.sun.source.tree.MethodTree;
import com.sun.source.tree.NewArrayTree;
import com.sun.source.tree.NewClassTree;
import com.sun.source.tree.ParenthesizedTree;
import com.sun.source.tree.Tree;
import com.sun.source.tree.UnaryTree;
import com.sun.source.tree.VariableTree;
import com.sun.source.tree.WhileLoopTree;
import com.sun.source.util.JavacTask;
import com.sun.source.util.TreePath;
import com.sun.source.util.TreePathScanner;
import com.sun.source.util.Trees;
import java.io.IOException;
import java.nio.file.Files;
import java.nio.file.Path;
import java.util.ArrayList;
import java.util.HashMap;
import java.util.HashSet;
import java.util.LinkedHashMap;
import java.util.LinkedHashSet;
import java.util.List;
import java.util.Map;
import java.util.Set;
import javax.lang.model.element.Element;
import javax.lang.model.element.ElementKind;
import javax.lang.model.element.Modifier;
import javax.lang.model.type.TypeKind;
import javax.lang.model.type.TypeMirror;
import javax.tools.JavaCompiler;
import javax.tools.JavaFileObject;
import javax.tools.StandardJavaFileManager;
import javax.tools.ToolProvider;

/** The source keeps to LANGUAGE.md, as far as its rules can be read off the tree that javac makes of it. */
public final class LanguageTest extends TreePathScanner<Void, Void> {
    private static final Check CHECK = new Check("LanguageTest");
    private static final Path SOURCE = Path.of("src/main/java/SiegeInk.java");
    private static final int MOST_PARAMETERS = 7;
    private static final int MOST_LINES = 60;
    private static final int MOST_DEEP = 8;
    private static final int MOST_CLASSES = 12;
    private static final int MOST_FIELDS = 20;
    /** Rules 2 and 6. */
    private static final Set<Tree.Kind> FORBIDDEN = Set.of(
        Tree.Kind.LAMBDA_EXPRESSION, Tree.Kind.MEMBER_REFERENCE, Tree.Kind.THROW, Tree.Kind.TRY, Tree.Kind.CATCH,
        Tree.Kind.SYNCHRONIZED, Tree.Kind.ASSERT, Tree.Kind.ANNOTATION, Tree.Kind.BINDING_PATTERN);
    /** What this class takes of rule 4; the rule itself lets in more. */
    private static final Set<String> LIBRARY = Set.of(
        "java.lang.String.length", "java.lang.String.charAt", "java.lang.String.indexOf", "java.lang.Math.min",
        "java.lang.Math.max", "java.lang.System.arraycopy", "java.util.Arrays.fill");
    private static final Set<String> TYPES = Set.of("int", "long", "boolean", "char", "byte", "int[]", "long[]",
        "boolean[]", "byte[]", "int[][]", "java.lang.String");
    private static final Set<String> STATIC_TYPES = Set.of("int", "long", "boolean", "char", "java.lang.String", "int[]");

    private final Trees trees;
    private final CompilationUnitTree unit;
    private final Set<String> faceNames = new HashSet<>();
    /** Each method with those that it calls. */
    private final Map<Element, Set<Element>> calls = new LinkedHashMap<>();
    private final Map<Element, Integer> depths = new HashMap<>();
    private int classes;

    private LanguageTest(Trees trees, CompilationUnitTree unit) {
        this.trees = trees;
        this.unit = unit;
    }

    public static void main(String[] args) throws IOException {
        JavaCompiler compiler = ToolProvider.getSystemJavaCompiler();
        try (StandardJavaFileManager files = compiler.getStandardFileManager(null, null, null)) {
            Iterable<? extends JavaFileObject> sources = files.getJavaFileObjects(SOURCE);
            JavacTask task = (JavacTask) compiler.getTask(null, files, null, List.of("-proc:none"), null, sources);
            List<CompilationUnitTree> units = new ArrayList<>();
            task.parse().forEach(units::add);
            task.analyze();
            CHECK.due("files", units.size(), 1);
            new LanguageTest(Trees.instance(task), units.get(0)).look();
        }
        signs();
        CHECK.end();
    }

    private static void signs() throws IOException {
        String text = Files.readString(SOURCE);
        for (int i = 0; i < text.length(); i++) {
            if (text.charAt(i) > 127) {
                CHECK.due("a sign above 127 at " + i, text.charAt(i), 0);
            }
        }
    }

    private void look() {
        CHECK.due("no package line", unit.getPackage() == null, true);
        CHECK.due("classes of the file", unit.getTypeDecls().size(), 1);
        for (ImportTree wanted : unit.getImports()) {
            CHECK.due(wanted.toString(), wanted.getQualifiedIdentifier().toString().equals("java.util.Arrays"), true);
        }
        ClassTree face = (ClassTree) unit.getTypeDecls().get(0);
        for (Tree member : face.getMembers()) {
            if (member instanceof MethodTree m && m.getModifiers().getFlags().contains(Modifier.PUBLIC)) {
                faceNames.add(m.getName().toString());
            }
        }
        scan(unit, null);
        CHECK.due("classes, " + classes, classes <= MOST_CLASSES, true);
        for (Element method : calls.keySet()) {
            int deep = depthOf(method, new LinkedHashSet<>());
            CHECK.due(method + " goes " + deep + " deep", deep <= MOST_DEEP, true);
        }
    }

    /** No method of this class calls itself on any way, so that the depth is that of a tree. */
    private int depthOf(Element method, Set<Element> above) {
        Integer known = depths.get(method);
        if (known != null) {
            return known;
        }
        if (!above.add(method)) {
            CHECK.due("recursion: " + above, true, false);
            return 0;
        }
        int deepest = 0;
        for (Element called : calls.getOrDefault(method, Set.of())) {
            deepest = Math.max(deepest, depthOf(called, above));
        }
        above.remove(method);
        depths.put(method, deepest + 1);
        return deepest + 1;
    }

    private void forbid(Tree tree, String why) {
        CHECK.due("line " + lineOf(trees.getSourcePositions().getStartPosition(unit, tree)) + ": " + why, true, false);
    }

    private long lineOf(long position) {
        return unit.getLineMap().getLineNumber(position);
    }

    private Element elementOf(Tree tree) {
        return trees.getElement(new TreePath(getCurrentPath(), tree));
    }

    private TypeMirror typeOf(Tree tree) {
        return trees.getTypeMirror(new TreePath(getCurrentPath(), tree));
    }

    private Element methodHere() {
        for (TreePath path = getCurrentPath(); path != null; path = path.getParentPath()) {
            if (path.getLeaf() instanceof MethodTree) {
                return trees.getElement(path);
            }
        }
        return null;
    }

    private static boolean isOwn(TypeMirror type) {
        String name = type.toString();
        return name.equals("SiegeInk") || name.startsWith("SiegeInk.");
    }

    @Override
    public Void scan(Tree tree, Void nothing) {
        if (tree != null && FORBIDDEN.contains(tree.getKind())) {
            forbid(tree, tree.getKind() + " is forbidden");
        }
        return super.scan(tree, nothing);
    }

    @Override
    public Void visitClass(ClassTree tree, Void nothing) {
        classes++;
        Set<Modifier> flags = tree.getModifiers().getFlags();
        boolean outer = getCurrentPath().getParentPath().getLeaf() == unit;
        if (outer) {
            CHECK.due("the class is public and final", flags.equals(Set.of(Modifier.PUBLIC, Modifier.FINAL)), true);
        } else {
            boolean member = getCurrentPath().getParentPath().getParentPath().getLeaf() == unit;
            CHECK.due(tree.getSimpleName() + " is a member of the class", member, true);
            CHECK.due(tree.getSimpleName() + " is static", flags.contains(Modifier.STATIC), true);
            CHECK.due(tree.getSimpleName() + " is not public",
                flags.contains(Modifier.PUBLIC) || flags.contains(Modifier.PROTECTED), false);
        }
        int fields = 0;
        for (Tree member : tree.getMembers()) {
            if (member instanceof VariableTree v && !v.getModifiers().getFlags().contains(Modifier.STATIC)) {
                fields++;
            }
            if (member.getKind() == Tree.Kind.BLOCK) {
                forbid(member, "a block of a class");
            }
        }
        CHECK.due("fields of " + tree.getSimpleName() + ", " + fields, fields <= MOST_FIELDS, true);
        return super.visitClass(tree, nothing);
    }

    @Override
    public Void visitMethod(MethodTree tree, Void nothing) {
        Element method = trees.getElement(getCurrentPath());
        String name = tree.getName().toString();
        calls.putIfAbsent(method, new LinkedHashSet<>());
        boolean ofFace = tree.getModifiers().getFlags().contains(Modifier.PUBLIC);
        CHECK.due(name + " bears the name of a public one", !ofFace && faceNames.contains(name)
            && method.getKind() == ElementKind.METHOD, false);
        CHECK.due(name + " has few parameters", tree.getParameters().size() <= MOST_PARAMETERS, true);
        long first = lineOf(trees.getSourcePositions().getStartPosition(unit, tree));
        long last = first;
        if (trees.getSourcePositions().getEndPosition(unit, tree) >= 0) {
            last = lineOf(trees.getSourcePositions().getEndPosition(unit, tree));
        }
        CHECK.due(name + " has " + (last - first + 1) + " lines", last - first + 1 <= MOST_LINES, true);
        CHECK.due(name + " throws nothing", tree.getThrows().size(), 0);
        return super.visitMethod(tree, nothing);
    }

    @Override
    public Void visitMethodInvocation(MethodInvocationTree tree, Void nothing) {
        Element called = elementOf(tree.getMethodSelect());
        if (called != null && called.getKind() == ElementKind.METHOD) {
            noteCall(tree, called);
        }
        return super.visitMethodInvocation(tree, nothing);
    }

    private void noteCall(Tree tree, Element called) {
        TypeMirror owner = called.getEnclosingElement().asType();
        if (!isOwn(owner)) {
            String name = owner + "." + called.getSimpleName();
            if (!LIBRARY.contains(name)) {
                forbid(tree, name + " is not among what is taken of the library");
            }
        } else if (methodHere() != null) {
            calls.computeIfAbsent(methodHere(), m -> new LinkedHashSet<>()).add(called);
        }
    }

    /** Rule 12 lets more in; this class makes all that it needs ahead of the first call. */
    private void makes(Tree tree) {
        Element method = methodHere();
        if (method != null && method.getKind() != ElementKind.CONSTRUCTOR) {
            forbid(tree, "something is made behind the constructor");
        }
    }

    @Override
    public Void visitNewClass(NewClassTree tree, Void nothing) {
        makes(tree);
        CHECK.due(tree + " is of a class of its own", isOwn(typeOf(tree.getIdentifier())), true);
        CHECK.due(tree + " has no body", tree.getClassBody() == null, true);
        return super.visitNewClass(tree, nothing);
    }

    @Override
    public Void visitNewArray(NewArrayTree tree, Void nothing) {
        makes(tree);
        return super.visitNewArray(tree, nothing);
    }

    @Override
    public Void visitVariable(VariableTree tree, Void nothing) {
        TypeMirror type = typeOf(tree.getType());
        if (!isOwn(type) && !TYPES.contains(type.toString())) {
            forbid(tree, "type " + type);
        }
        Set<Modifier> flags = tree.getModifiers().getFlags();
        if (flags.contains(Modifier.STATIC)) {
            CHECK.due(tree.getName() + " is final", flags.contains(Modifier.FINAL), true);
            CHECK.due(tree.getName() + " is a constant", STATIC_TYPES.contains(type.toString()), true);
            boolean writtenOut = type.getKind() != TypeKind.ARRAY
                || tree.getInitializer() instanceof NewArrayTree a && a.getInitializers() != null;
            CHECK.due(tree.getName() + " is written out", writtenOut, true);
        }
        return super.visitVariable(tree, nothing);
    }

    private void changes(ExpressionTree target) {
        if (target instanceof ArrayAccessTree a) {
            Element row = elementOf(a.getExpression());
            if (row != null && row.getModifiers().contains(Modifier.STATIC)) {
                forbid(target, "a static row is changed");
            }
        }
    }

    @Override
    public Void visitAssignment(AssignmentTree tree, Void nothing) {
        changes(tree.getVariable());
        return super.visitAssignment(tree, nothing);
    }

    @Override
    public Void visitCompoundAssignment(CompoundAssignmentTree tree, Void nothing) {
        changes(tree.getVariable());
        return super.visitCompoundAssignment(tree, nothing);
    }

    @Override
    public Void visitUnary(UnaryTree tree, Void nothing) {
        changes(tree.getExpression());
        return super.visitUnary(tree, nothing);
    }

    @Override
    public Void visitBinary(BinaryTree tree, Void nothing) {
        boolean texts = isText(tree.getLeftOperand()) || isText(tree.getRightOperand());
        if (texts) {
            forbid(tree, "texts joined or compared by a sign");
        }
        return super.visitBinary(tree, nothing);
    }

    private boolean isText(Tree tree) {
        TypeMirror type = typeOf(tree);
        return type != null && type.toString().equals("java.lang.String");
    }

    private void ends(Tree loop, ExpressionTree condition) {
        ExpressionTree plain = condition;
        while (plain instanceof ParenthesizedTree p) {
            plain = p.getExpression();
        }
        if (plain == null || plain instanceof LiteralTree) {
            forbid(loop, "a loop without an end of its own");
        }
    }

    @Override
    public Void visitForLoop(ForLoopTree tree, Void nothing) {
        ends(tree, tree.getCondition());
        return super.visitForLoop(tree, nothing);
    }

    @Override
    public Void visitWhileLoop(WhileLoopTree tree, Void nothing) {
        ends(tree, tree.getCondition());
        return super.visitWhileLoop(tree, nothing);
    }

    @Override
    public Void visitDoWhileLoop(DoWhileLoopTree tree, Void nothing) {
        ends(tree, tree.getCondition());
        return super.visitDoWhileLoop(tree, nothing);
    }
}
