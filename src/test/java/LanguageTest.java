import com.sun.source.tree.AnnotatedTypeTree;
import com.sun.source.tree.AnnotationTree;
import com.sun.source.tree.AssertTree;
import com.sun.source.tree.ClassTree;
import com.sun.source.tree.CompilationUnitTree;
import com.sun.source.tree.DoWhileLoopTree;
import com.sun.source.tree.EnhancedForLoopTree;
import com.sun.source.tree.ForLoopTree;
import com.sun.source.tree.InstanceOfTree;
import com.sun.source.tree.LambdaExpressionTree;
import com.sun.source.tree.LiteralTree;
import com.sun.source.tree.MemberReferenceTree;
import com.sun.source.tree.MethodInvocationTree;
import com.sun.source.tree.MethodTree;
import com.sun.source.tree.NewArrayTree;
import com.sun.source.tree.NewClassTree;
import com.sun.source.tree.SynchronizedTree;
import com.sun.source.tree.ThrowTree;
import com.sun.source.tree.Tree;
import com.sun.source.tree.TryTree;
import com.sun.source.tree.TypeCastTree;
import com.sun.source.tree.VariableTree;
import com.sun.source.tree.WhileLoopTree;
import com.sun.source.util.JavacTask;
import com.sun.source.util.TreePath;
import com.sun.source.util.TreePathScanner;
import com.sun.source.util.Trees;
import java.io.File;
import java.io.IOException;
import java.util.HashMap;
import java.util.HashSet;
import java.util.LinkedHashMap;
import java.util.List;
import java.util.Map;
import java.util.Set;
import javax.lang.model.element.Element;
import javax.lang.model.element.ElementKind;
import javax.lang.model.element.Modifier;
import javax.tools.JavaCompiler;
import javax.tools.StandardJavaFileManager;
import javax.tools.ToolProvider;

/**
 * The rules of LANGUAGE.md that can be read from the source, each by its number. The class uses
 * less than the rules allow, and it is held to what it uses: for loops alone, no recursion, no
 * objects made but in constructors and fields, no casts but of numbers.
 */
public final class LanguageTest extends TreePathScanner<Void, Void> {
    private static final Set<String> TYPES = Set.of("int", "long", "boolean", "int[]", "boolean[]", "java.lang.String",
        "void");
    private static final Set<String> LIBRARY = Set.of("java.lang.String.indexOf", "java.lang.Integer.bitCount",
        "java.lang.Integer.compare", "java.lang.Math.min", "java.lang.Math.max", "java.lang.Object.<init>");
    private static final int DEEPEST = 8;

    private final Trees trees;
    private final CompilationUnitTree unit;
    private final Map<Element, Set<Element>> calls = new LinkedHashMap<>();
    private final Map<Element, Integer> depths = new HashMap<>();
    private final Set<Element> open = new HashSet<>();
    private final Set<String> publicNames = new HashSet<>();
    private final Set<String> privateNames = new HashSet<>();
    private int classes = 0;

    private LanguageTest(Trees trees, CompilationUnitTree unit) {
        this.trees = trees;
        this.unit = unit;
    }

    public static void main(String[] args) throws IOException {
        JavaCompiler compiler = ToolProvider.getSystemJavaCompiler();
        try (StandardJavaFileManager files = compiler.getStandardFileManager(null, null, null)) {
            JavacTask task = (JavacTask) compiler.getTask(null, files, null, List.of("-proc:none"), null,
                files.getJavaFileObjects(new File("src/main/java/WordsTold.java")));
            int units = 0;
            for (CompilationUnitTree unit : task.parse()) {
                units++;
                task.analyze();
                new LanguageTest(Trees.instance(task), unit).look();
            }
            Due.due("files", units, 1);
        }
        Due.end();
    }

    private void look() {
        rule(1, "no package line, no import", unit, unit.getPackageName() == null && unit.getImports().isEmpty());
        rule(1, "one class in the file", unit, unit.getTypeDecls().size() == 1);
        scan(unit, null);
        for (String name : privateNames) {
            rule(1, "the private " + name + " bears the name of a public one", unit, !publicNames.contains(name));
        }
        rule(11, classes + " classes", unit, classes <= 12);
        for (Element method : calls.keySet()) {
            int depth = depth(method);
            rule(11, method + " opens " + depth + " calls at once", unit, depth <= DEEPEST);
        }
        rule(11, "calls were seen", unit, depths.size() > 28);
    }

    private void rule(int number, String what, Tree at, boolean holds) {
        long line = unit.getLineMap().getLineNumber(trees.getSourcePositions().getStartPosition(unit, at));
        Due.due("LANGUAGE.md, rule " + number + ", line " + line + ": " + what, holds ? 1 : 0, 1);
    }

    /** How many calls stand open at most, this one and those of the library with it. */
    private int depth(Element method) {
        if (depths.containsKey(method)) {
            return depths.get(method);
        }
        open.add(method);
        int deepest = 0;
        for (Element called : calls.getOrDefault(method, Set.of())) {
            rule(8, called + " calls itself", unit, !open.contains(called));
            deepest = Math.max(deepest, open.contains(called) ? 0 : depth(called));
        }
        open.remove(method);
        depths.put(method, deepest + 1);
        return deepest + 1;
    }

    @Override
    public Void visitClass(ClassTree tree, Void none) {
        classes++;
        Set<Modifier> modifiers = tree.getModifiers().getFlags();
        boolean inside = getCurrentPath().getParentPath().getLeaf() instanceof ClassTree;
        boolean outer = getCurrentPath().getParentPath().getLeaf() == unit;
        rule(1, "public and final", tree, !outer || modifiers.equals(Set.of(Modifier.PUBLIC, Modifier.FINAL)));
        rule(2, "a class inside is private and static", tree,
            outer || inside && modifiers.contains(Modifier.STATIC) && modifiers.contains(Modifier.PRIVATE));
        rule(2, "a class, no other kind", tree, tree.getKind() == Tree.Kind.CLASS);
        int fields = 0;
        for (Tree member : tree.getMembers()) {
            fields += member instanceof VariableTree field && !isConstant(field) ? 1 : 0;
            rule(5, "no initialiser block", member, member.getKind() != Tree.Kind.BLOCK);
        }
        rule(11, fields + " fields", tree, fields <= 20);
        return super.visitClass(tree, none);
    }

    private static boolean isConstant(VariableTree field) {
        return field.getModifiers().getFlags().contains(Modifier.STATIC);
    }

    @Override
    public Void visitVariable(VariableTree tree, Void none) {
        Element element = element(tree);
        type(element.asType().toString(), tree);
        if (element.getKind() == ElementKind.FIELD) {
            rule(1, "fields are private", tree, element.getModifiers().contains(Modifier.PRIVATE));
            if (isConstant(tree)) {
                rule(5, "a constant is final", tree, element.getModifiers().contains(Modifier.FINAL));
                rule(5, "a constant of int or String", tree, Set.of("int", "java.lang.String").contains(element.asType().toString()));
            }
        }
        return super.visitVariable(tree, none);
    }

    private void type(String name, Tree at) {
        rule(3, "the type " + name, at, TYPES.contains(name) || name.matches("WordsTold\\.\\w+"));
    }

    @Override
    public Void visitMethod(MethodTree tree, Void none) {
        Element element = element(tree);
        calls.computeIfAbsent(element, key -> new HashSet<>());
        boolean ofOuter = ((ClassTree) getCurrentPath().getParentPath().getLeaf()).getModifiers().getFlags().contains(Modifier.PUBLIC);
        if (ofOuter) {
            boolean isPublic = element.getModifiers().contains(Modifier.PUBLIC);
            rule(1, tree.getName() + " is public or private", tree, isPublic || element.getModifiers().contains(Modifier.PRIVATE));
            (isPublic ? publicNames : privateNames).add(tree.getName().toString());
        } else if (element.getModifiers().contains(Modifier.PRIVATE) && element.getKind() == ElementKind.METHOD) {
            privateNames.add(tree.getName().toString());
        }
        if (tree.getReturnType() != null) {
            type(trees.getTypeMirror(new TreePath(getCurrentPath(), tree.getReturnType())).toString(), tree);
        }
        rule(6, "throws", tree, tree.getThrows().isEmpty());
        rule(6, "no equals, hashCode, toString", tree, !Set.of("equals", "hashCode", "toString").contains(tree.getName().toString()));
        rule(11, tree.getParameters().size() + " parameters", tree, tree.getParameters().size() <= 7);
        long from = unit.getLineMap().getLineNumber(trees.getSourcePositions().getStartPosition(unit, tree));
        long to = unit.getLineMap().getLineNumber(trees.getSourcePositions().getEndPosition(unit, tree));
        rule(11, (to - from + 1) + " lines", tree, to - from < 60);
        return super.visitMethod(tree, none);
    }

    private Element element(Tree tree) {
        return trees.getElement(getCurrentPath());
    }

    /** The method or constructor that this place is in; null for a field's first value. */
    private Element method() {
        for (TreePath path = getCurrentPath(); path != null; path = path.getParentPath()) {
            if (path.getLeaf() instanceof MethodTree) {
                return trees.getElement(path);
            }
        }
        return null;
    }

    private void called(Element called) {
        Element from = method();
        if (from != null) {
            calls.computeIfAbsent(from, key -> new HashSet<>()).add(called);
        }
    }

    @Override
    public Void visitMethodInvocation(MethodInvocationTree tree, Void none) {
        Element called = element(tree);
        String name = called.getEnclosingElement() + "." + called.getSimpleName();
        rule(4, name, tree, name.startsWith("WordsTold.") || LIBRARY.contains(name));
        called(called);
        return super.visitMethodInvocation(tree, none);
    }

    private void made(Tree tree) {
        Element method = method();
        rule(12, "made in a constructor or a field", tree, method == null || method.getKind() == ElementKind.CONSTRUCTOR);
    }

    @Override
    public Void visitNewClass(NewClassTree tree, Void none) {
        made(tree);
        rule(2, "no class without a name", tree, tree.getClassBody() == null);
        type(trees.getTypeMirror(getCurrentPath()).toString(), tree);
        called(element(tree));
        return super.visitNewClass(tree, none);
    }

    @Override
    public Void visitNewArray(NewArrayTree tree, Void none) {
        made(tree);
        return super.visitNewArray(tree, none);
    }

    @Override
    public Void visitForLoop(ForLoopTree tree, Void none) {
        boolean counts = tree.getInitializer().size() == 1 && tree.getCondition() != null && tree.getUpdate().size() == 1;
        rule(9, "a loop with a counter and a bound", tree, counts);
        return super.visitForLoop(tree, none);
    }

    @Override
    public Void visitTypeCast(TypeCastTree tree, Void none) {
        String type = tree.getType().toString();
        rule(6, "a cast to " + type, tree, type.equals("int") || type.equals("char"));
        return super.visitTypeCast(tree, none);
    }

    @Override
    public Void visitLiteral(LiteralTree tree, Void none) {
        boolean plain = tree.getKind() != Tree.Kind.STRING_LITERAL || tree.getValue().toString().chars().allMatch(c -> c > 0 && c < 128);
        rule(4, "signs 1 to 127", tree, plain);
        rule(3, "no null", tree, tree.getKind() != Tree.Kind.NULL_LITERAL);
        return super.visitLiteral(tree, none);
    }

    private Void forbidden(int rule, Tree tree) {
        rule(rule, "no " + tree.getKind(), tree, false);
        return null;
    }

    @Override
    public Void visitLambdaExpression(LambdaExpressionTree tree, Void none) {
        return forbidden(2, tree);
    }

    @Override
    public Void visitMemberReference(MemberReferenceTree tree, Void none) {
        return forbidden(2, tree);
    }

    @Override
    public Void visitThrow(ThrowTree tree, Void none) {
        return forbidden(6, tree);
    }

    @Override
    public Void visitTry(TryTree tree, Void none) {
        return forbidden(6, tree);
    }

    @Override
    public Void visitSynchronized(SynchronizedTree tree, Void none) {
        return forbidden(6, tree);
    }

    @Override
    public Void visitAssert(AssertTree tree, Void none) {
        return forbidden(6, tree);
    }

    @Override
    public Void visitInstanceOf(InstanceOfTree tree, Void none) {
        return forbidden(6, tree);
    }

    @Override
    public Void visitWhileLoop(WhileLoopTree tree, Void none) {
        return forbidden(9, tree);
    }

    @Override
    public Void visitDoWhileLoop(DoWhileLoopTree tree, Void none) {
        return forbidden(9, tree);
    }

    @Override
    public Void visitEnhancedForLoop(EnhancedForLoopTree tree, Void none) {
        return forbidden(9, tree);
    }

    @Override
    public Void visitAnnotation(AnnotationTree tree, Void none) {
        return forbidden(4, tree);
    }

    @Override
    public Void visitAnnotatedType(AnnotatedTypeTree tree, Void none) {
        return forbidden(4, tree);
    }
}
