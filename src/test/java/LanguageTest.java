import com.sun.source.tree.AssertTree;
import com.sun.source.tree.BinaryTree;
import com.sun.source.tree.ClassTree;
import com.sun.source.tree.CompilationUnitTree;
import com.sun.source.tree.DoWhileLoopTree;
import com.sun.source.tree.ExpressionTree;
import com.sun.source.tree.ForLoopTree;
import com.sun.source.tree.ImportTree;
import com.sun.source.tree.LambdaExpressionTree;
import com.sun.source.tree.LiteralTree;
import com.sun.source.tree.MemberReferenceTree;
import com.sun.source.tree.MethodInvocationTree;
import com.sun.source.tree.MethodTree;
import com.sun.source.tree.NewArrayTree;
import com.sun.source.tree.NewClassTree;
import com.sun.source.tree.SynchronizedTree;
import com.sun.source.tree.ThrowTree;
import com.sun.source.tree.Tree;
import com.sun.source.tree.TryTree;
import com.sun.source.tree.VariableTree;
import com.sun.source.tree.WhileLoopTree;
import com.sun.source.util.JavacTask;
import com.sun.source.util.TreePathScanner;
import com.sun.source.util.Trees;
import java.io.IOException;
import java.nio.file.Path;
import java.util.ArrayList;
import java.util.HashMap;
import java.util.List;
import java.util.Map;
import java.util.Set;
import java.util.TreeSet;
import javax.lang.model.element.Element;
import javax.lang.model.element.ElementKind;
import javax.lang.model.element.Modifier;
import javax.lang.model.type.ArrayType;
import javax.lang.model.type.TypeKind;
import javax.lang.model.type.TypeMirror;
import javax.tools.JavaCompiler;
import javax.tools.StandardJavaFileManager;
import javax.tools.ToolProvider;

/**
 * The rules of ../shared/LANGUAGE.md that can be read off the file: what it is made of, which calls
 * of the library it makes and how deep its own calls go. Each complaint begins with the rule's number.
 * It is narrower than the rules where the class needs no more.
 */
public final class LanguageTest extends TreePathScanner<Void, Void> {
    private static final Path FILE = Path.of("src/main/java/OverlayNet.java");

    private static final int MOST_PARAMETERS = 7;
    private static final int MOST_LINES = 60;
    private static final int MOST_CLASSES = 12;
    private static final int MOST_FIELDS = 20;
    private static final int DEEPEST = 8;

    private static final Set<String> LIBRARY = Set.of("java.util.Arrays.fill", "java.lang.System.arraycopy",
            "java.lang.Integer.bitCount", "java.lang.Math.min", "java.lang.Math.max");
    private static final Set<String> IMPORTS = Set.of("java.util.Arrays", "java.util.NoSuchElementException");
    private static final Set<String> EXCEPTIONS = Set.of("java.lang.IllegalArgumentException",
            "java.lang.IllegalStateException", "java.util.NoSuchElementException");
    /** The only method that makes an object: it is called 8 times at most. */
    private static final String MAKER = "OverlayNet.machine";

    private final CompilationUnitTree unit;
    private final Trees trees;
    private final Map<String, Set<String>> calls = new HashMap<>();
    private final Set<String> face = new TreeSet<>();
    private int classes;

    private LanguageTest(CompilationUnitTree unit, Trees trees) {
        this.unit = unit;
        this.trees = trees;
    }

    public static void main(String[] args) throws IOException {
        JavaCompiler compiler = ToolProvider.getSystemJavaCompiler();
        try (StandardJavaFileManager files = compiler.getStandardFileManager(null, null, null)) {
            JavacTask task = (JavacTask) compiler.getTask(null, files, null, List.of("-proc:none"), null,
                    files.getJavaFileObjects(FILE));
            List<CompilationUnitTree> units = new ArrayList<>();
            task.parse().forEach(units::add);
            task.analyze();
            Check.due("one file", units.size(), 1);
            LanguageTest test = new LanguageTest(units.get(0), Trees.instance(task));
            test.scan(units.get(0), null);
            test.end();
        }
        Check.end();
    }

    private void end() {
        Check.due("no package line", unit.getPackageName(), null);
        Check.due("11. classes, at most " + MOST_CLASSES + ": " + classes, classes <= MOST_CLASSES, true);
        for (String start : face) {
            int depth = depthFrom(start, new TreeSet<>());
            Check.due("11. " + start + " goes " + depth + " deep", depth <= DEEPEST, true);
        }
    }

    /** How many calls stand open at once at most, those of the library too. */
    private int depthFrom(String method, Set<String> open) {
        if (!open.add(method)) {
            Check.due("8. calls itself", method, "no recursion");
            return 0;
        }
        int deepest = 0;
        for (String called : calls.getOrDefault(method, Set.of())) {
            deepest = Math.max(deepest, depthFrom(called, open));
        }
        open.remove(method);
        return deepest + 1;
    }

    private void never(String rule, Tree tree) {
        Check.due(rule + ": " + tree, true, false);
    }

    /** The method, constructor or class around the place where the scan is. */
    private Element around() {
        var path = getCurrentPath().getParentPath();
        while (!(path.getLeaf() instanceof MethodTree) && !(path.getLeaf() instanceof ClassTree)) {
            path = path.getParentPath();
        }
        return trees.getElement(path);
    }

    private static String nameOf(Element element) {
        return element.getEnclosingElement() + "." + element.getSimpleName();
    }

    private static boolean isOwn(Element type) {
        return type.toString().equals("OverlayNet") || type.toString().startsWith("OverlayNet.");
    }

    @Override
    public Void visitImport(ImportTree tree, Void none) {
        Check.due("4. import " + tree.getQualifiedIdentifier(),
                IMPORTS.contains(tree.getQualifiedIdentifier().toString()) && !tree.isStatic(), true);
        return super.visitImport(tree, none);
    }

    @Override
    public Void visitClass(ClassTree tree, Void none) {
        classes++;
        Element type = trees.getElement(getCurrentPath());
        boolean isNested = type.getEnclosingElement().getKind() == ElementKind.CLASS;
        Set<Modifier> seen = type.getModifiers();
        Check.due("1. " + type + " is static and private, or the one public class",
                isNested ? seen.contains(Modifier.STATIC) && seen.contains(Modifier.PRIVATE)
                        : seen.contains(Modifier.PUBLIC) && seen.contains(Modifier.FINAL), true);
        long fields = type.getEnclosedElements().stream().filter(member -> member.getKind() == ElementKind.FIELD
                && !member.getModifiers().contains(Modifier.STATIC)).count();
        Check.due("11. fields of " + type + ": " + fields, fields <= MOST_FIELDS, true);
        Check.due("5. no initialiser block in " + type,
                tree.getMembers().stream().noneMatch(member -> member.getKind() == Tree.Kind.BLOCK), true);
        return super.visitClass(tree, none);
    }

    @Override
    public Void visitMethod(MethodTree tree, Void none) {
        Element method = trees.getElement(getCurrentPath());
        Set<Modifier> seen = method.getModifiers();
        if (seen.contains(Modifier.PUBLIC) && method.getKind() == ElementKind.METHOD) {
            face.add(nameOf(method));
        }
        Check.due("1. " + nameOf(method) + " bears the name of a public one alone when it is that",
                isNameOfFace(tree.getName().toString()), seen.contains(Modifier.PUBLIC)
                        && method.getKind() == ElementKind.METHOD);
        Check.due("11. parameters of " + nameOf(method), tree.getParameters().size() <= MOST_PARAMETERS, true);
        long lines = lineOf(trees.getSourcePositions().getEndPosition(unit, tree))
                - lineOf(trees.getSourcePositions().getStartPosition(unit, tree)) + 1;
        Check.due("11. " + nameOf(method) + " has " + lines + " lines", lines <= MOST_LINES, true);
        return super.visitMethod(tree, none);
    }

    private static boolean isNameOfFace(String name) {
        for (var method : OverlayNet.class.getMethods()) {
            if (method.getDeclaringClass() == OverlayNet.class && method.getName().equals(name)) {
                return true;
            }
        }
        return false;
    }

    private long lineOf(long position) {
        return unit.getLineMap().getLineNumber(position);
    }

    @Override
    public Void visitVariable(VariableTree tree, Void none) {
        Element variable = trees.getElement(getCurrentPath());
        TypeMirror type = variable.asType();
        Check.due("3. the type of " + tree, isAllowed(type), true);
        if (variable.getModifiers().contains(Modifier.STATIC)) {
            Check.due("5. a constant of int: " + tree, type.getKind() == TypeKind.INT
                    && variable.getModifiers().contains(Modifier.FINAL)
                    && variable.getModifiers().contains(Modifier.PRIVATE), true);
        }
        return super.visitVariable(tree, none);
    }

    private static boolean isAllowed(TypeMirror type) {
        if (type.getKind() != TypeKind.ARRAY) {
            return isNumber(type) || type.toString().startsWith("OverlayNet.");
        }
        TypeMirror part = ((ArrayType) type).getComponentType();
        return part.getKind() == TypeKind.ARRAY ? isNumber(((ArrayType) part).getComponentType()) : isAllowed(part);
    }

    private static boolean isNumber(TypeMirror type) {
        return type.getKind() == TypeKind.INT || type.getKind() == TypeKind.BOOLEAN;
    }

    @Override
    public Void visitMethodInvocation(MethodInvocationTree tree, Void none) {
        Element called = trees.getElement(getCurrentPath());
        boolean isSuper = called.getKind() == ElementKind.CONSTRUCTOR;
        if (!isSuper) {
            note(nameOf(called));
            if (!isOwn(called.getEnclosingElement())) {
                Check.due("4. call of " + nameOf(called), LIBRARY.contains(nameOf(called)), true);
            }
        }
        return super.visitMethodInvocation(tree, none);
    }

    private void note(String called) {
        calls.computeIfAbsent(nameOf(around()), name -> new TreeSet<>()).add(called);
    }

    @Override
    public Void visitNewClass(NewClassTree tree, Void none) {
        Element made = trees.getElement(getCurrentPath()).getEnclosingElement();
        if (isOwn(made)) {
            note(made + ".<init>");
            onceOnly(tree);
            Check.due("2. no class without a name: " + tree, tree.getClassBody(), null);
        } else {
            Check.due("6. only an exception that is thrown: " + tree,
                    getCurrentPath().getParentPath().getLeaf() instanceof ThrowTree, true);
        }
        return super.visitNewClass(tree, none);
    }

    @Override
    public Void visitNewArray(NewArrayTree tree, Void none) {
        onceOnly(tree);
        return super.visitNewArray(tree, none);
    }

    private void onceOnly(Tree tree) {
        Element place = around();
        Check.due("12. made in a constructor: " + tree + " in " + place,
                place.getKind() != ElementKind.METHOD || nameOf(place).equals(MAKER), true);
    }

    @Override
    public Void visitThrow(ThrowTree tree, Void none) {
        Element place = around();
        Check.due("6. thrown in a method of the face: " + tree,
                place.getModifiers().contains(Modifier.PUBLIC) && place.getKind() == ElementKind.METHOD, true);
        if (tree.getExpression() instanceof NewClassTree made) {
            Check.due("6. what is thrown: " + tree, EXCEPTIONS.contains(
                    trees.getTypeMirror(trees.getPath(unit, made)).toString()), true);
            List<? extends ExpressionTree> texts = made.getArguments();
            Check.due("6. no text, or a written one: " + tree,
                    texts.isEmpty() || texts.size() == 1 && texts.get(0) instanceof LiteralTree, true);
        } else {
            never("6. throws what it has not made", tree);
        }
        return super.visitThrow(tree, none);
    }

    @Override
    public Void visitForLoop(ForLoopTree tree, Void none) {
        Check.due("9. a bound and a step: " + tree, tree.getCondition() != null && tree.getUpdate().size() == 1, true);
        return super.visitForLoop(tree, none);
    }

    @Override
    public Void visitBinary(BinaryTree tree, Void none) {
        TypeMirror type = trees.getTypeMirror(getCurrentPath());
        Check.due("10. texts are not joined by +: " + tree, isNumber(type), true);
        return super.visitBinary(tree, none);
    }

    @Override
    public Void visitWhileLoop(WhileLoopTree tree, Void none) {
        never("9. while", tree);
        return null;
    }

    @Override
    public Void visitDoWhileLoop(DoWhileLoopTree tree, Void none) {
        never("9. do", tree);
        return null;
    }

    @Override
    public Void visitLambdaExpression(LambdaExpressionTree tree, Void none) {
        never("2. lambda", tree);
        return null;
    }

    @Override
    public Void visitMemberReference(MemberReferenceTree tree, Void none) {
        never("2. method reference", tree);
        return null;
    }

    @Override
    public Void visitTry(TryTree tree, Void none) {
        never("6. try", tree);
        return null;
    }

    @Override
    public Void visitSynchronized(SynchronizedTree tree, Void none) {
        never("6. synchronized", tree);
        return null;
    }

    @Override
    public Void visitAssert(AssertTree tree, Void none) {
        never("6. assert", tree);
        return null;
    }
}
