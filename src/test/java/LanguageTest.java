import com.sun.source.tree.AssertTree;
import com.sun.source.tree.ClassTree;
import com.sun.source.tree.CompilationUnitTree;
import com.sun.source.tree.DoWhileLoopTree;
import com.sun.source.tree.ForLoopTree;
import com.sun.source.tree.LambdaExpressionTree;
import com.sun.source.tree.MemberReferenceTree;
import com.sun.source.tree.MethodInvocationTree;
import com.sun.source.tree.MethodTree;
import com.sun.source.tree.NewArrayTree;
import com.sun.source.tree.NewClassTree;
import com.sun.source.tree.SynchronizedTree;
import com.sun.source.tree.ThrowTree;
import com.sun.source.tree.Tree;
import com.sun.source.tree.TryTree;
import com.sun.source.tree.VariableTree;
import com.sun.source.tree.WhileLoopTree;
import com.sun.source.util.JavacTask;
import com.sun.source.util.TreePath;
import com.sun.source.util.TreePathScanner;
import com.sun.source.util.Trees;
import java.nio.file.Files;
import java.nio.file.Path;
import java.util.ArrayList;
import java.util.Arrays;
import java.util.LinkedHashMap;
import java.util.LinkedHashSet;
import java.util.List;
import java.util.Map;
import java.util.Set;
import java.util.TreeSet;
import javax.lang.model.element.Element;
import javax.lang.model.element.ElementKind;
import javax.lang.model.element.Modifier;
import javax.tools.JavaCompiler;
import javax.tools.StandardJavaFileManager;
import javax.tools.ToolProvider;

/** The rules of LANGUAGE.md that can be read off the class's tree, and the face that the document tells. */
public final class LanguageTest {
    private static final Path SOURCE = Path.of("src/main/java/TuneLoans.java");
    private static final Path DOCUMENT = Path.of("../shared/DOC.md");
    private static final Set<String> LIBRARY = Set.of("java.lang.String.indexOf", "java.lang.Integer.bitCount",
        "java.lang.Long.bitCount", "java.lang.Math.min", "java.lang.System.arraycopy", "java.lang.Object.<init>");
    private static final int MOST_LINES = 60, MOST_PARAMETERS = 7, MOST_DEEP = 8, MOST_CLASSES = 12, MOST_FIELDS = 20;

    private static int wrong;

    private final CompilationUnitTree unit;
    private final Trees trees;
    private final Map<Element, Set<Element>> calls = new LinkedHashMap<>();
    private final Set<String> publicNames = new TreeSet<>();
    private final List<String> privateNames = new ArrayList<>();
    private int classes;

    private LanguageTest(CompilationUnitTree unit, Trees trees) {
        this.unit = unit;
        this.trees = trees;
    }

    private static void broken(String what) {
        wrong++;
        System.out.println(what);
    }

    private long lineOf(long position) {
        return unit.getLineMap().getLineNumber(position);
    }

    private long lineOf(Tree tree) {
        return lineOf(trees.getSourcePositions().getStartPosition(unit, tree));
    }

    private long linesOf(Tree tree) {
        return lineOf(trees.getSourcePositions().getEndPosition(unit, tree)) - lineOf(tree) + 1;
    }

    /** Looks at each kind of tree that a rule names. */
    private final class Scanner extends TreePathScanner<Void, Element> {
        private void not(Tree tree, String what) {
            broken("line " + lineOf(tree) + ": " + what);
        }

        @Override public Void visitClass(ClassTree tree, Element in) {
            classes++;
            int fields = 0;
            for (Tree member : tree.getMembers()) {
                if (member instanceof VariableTree field && !field.getModifiers().getFlags().contains(Modifier.STATIC)) fields++;
            }
            if (fields > MOST_FIELDS) not(tree, fields + " fields");
            Set<Modifier> flags = tree.getModifiers().getFlags();
            boolean inner = getCurrentPath().getParentPath().getLeaf() instanceof ClassTree;
            if (inner && !(flags.contains(Modifier.STATIC) && flags.contains(Modifier.PRIVATE))) not(tree, "an inner class");
            return super.visitClass(tree, in);
        }

        @Override public Void visitVariable(VariableTree tree, Element in) {
            Element of = trees.getElement(getCurrentPath());
            if (of.getKind() == ElementKind.FIELD) {
                Set<Modifier> flags = of.getModifiers();
                if (flags.contains(Modifier.STATIC) && !flags.contains(Modifier.FINAL)) not(tree, "static state");
            }
            return super.visitVariable(tree, in);
        }

        @Override public Void visitMethod(MethodTree tree, Element in) {
            Element method = trees.getElement(getCurrentPath());
            calls.put(method, new LinkedHashSet<>());
            if (linesOf(tree) > MOST_LINES) not(tree, "a method of " + linesOf(tree) + " lines");
            if (tree.getParameters().size() > MOST_PARAMETERS) not(tree, "too many parameters");
            boolean face = method.getModifiers().contains(Modifier.PUBLIC);
            if (method.getKind() == ElementKind.METHOD) {
                if (face) publicNames.add(tree.getName().toString()); else privateNames.add(tree.getName().toString());
            }
            return super.visitMethod(tree, method);
        }

        @Override public Void visitMethodInvocation(MethodInvocationTree tree, Element in) {
            Element called = trees.getElement(new TreePath(getCurrentPath(), tree.getMethodSelect()));
            String owner = called.getEnclosingElement().toString();
            String name = owner + "." + called.getSimpleName();
            if (!owner.startsWith("TuneLoans") && !LIBRARY.contains(name)) not(tree, "a call outside the library: " + name);
            if (in != null) calls.get(in).add(called);
            return super.visitMethodInvocation(tree, in);
        }

        private void made(Tree tree, Element in) {
            if (in != null && in.getKind() != ElementKind.CONSTRUCTOR) not(tree, "made outside a constructor");
        }

        @Override public Void visitNewClass(NewClassTree tree, Element in) {
            made(tree, in);
            if (tree.getClassBody() != null) not(tree, "an anonymous class");
            return super.visitNewClass(tree, in);
        }

        @Override public Void visitNewArray(NewArrayTree tree, Element in) {
            made(tree, in);
            return super.visitNewArray(tree, in);
        }

        @Override public Void visitForLoop(ForLoopTree tree, Element in) {
            if (tree.getCondition() == null || tree.getUpdate().isEmpty()) not(tree, "a loop without a counter");
            return super.visitForLoop(tree, in);
        }

        @Override public Void visitWhileLoop(WhileLoopTree tree, Element in) {
            not(tree, "a loop without a counter");
            return super.visitWhileLoop(tree, in);
        }

        @Override public Void visitDoWhileLoop(DoWhileLoopTree tree, Element in) {
            not(tree, "a loop without a counter");
            return super.visitDoWhileLoop(tree, in);
        }

        @Override public Void visitThrow(ThrowTree tree, Element in) {
            not(tree, "throw");
            return null;
        }

        @Override public Void visitTry(TryTree tree, Element in) {
            not(tree, "try");
            return null;
        }

        @Override public Void visitSynchronized(SynchronizedTree tree, Element in) {
            not(tree, "synchronized");
            return null;
        }

        @Override public Void visitAssert(AssertTree tree, Element in) {
            not(tree, "assert");
            return null;
        }

        @Override public Void visitLambdaExpression(LambdaExpressionTree tree, Element in) {
            not(tree, "a lambda");
            return null;
        }

        @Override public Void visitMemberReference(MemberReferenceTree tree, Element in) {
            not(tree, "a method reference");
            return null;
        }

    }

    /** How deep calls go from here on, itself counted; a library's call is one more. */
    private int deep(Element method, List<Element> open) {
        if (open.contains(method)) {
            broken("recursion at " + method);
            return 0;
        }
        open.add(method);
        int most = 0;
        for (Element called : calls.getOrDefault(method, Set.of())) most = Math.max(most, deep(called, open));
        open.remove(method);
        return most + 1;
    }

    private void whole() {
        if (classes > MOST_CLASSES) broken(classes + " classes");
        if (!unit.getImports().isEmpty()) broken("an import");
        for (String name : privateNames) {
            if (publicNames.contains(name)) broken("a private method has a public one's name: " + name);
        }
        for (Element method : calls.keySet()) {
            int deep = deep(method, new ArrayList<>());
            if (deep > MOST_DEEP) broken(method + " calls " + deep + " deep");
        }
    }

    private static void face() throws Exception {
        Set<String> told = new TreeSet<>();
        String block = Files.readString(DOCUMENT).split("```java\n")[1].split("```")[0];
        for (String line : block.split("\n")) {
            String bare = line.trim();
            if (bare.contains("(") && bare.startsWith("public") && !bare.contains("TuneLoans(")) {
                told.add(bare.replaceAll("(int|long) \\w+([,)])", "$1$2").replace(", ", ",").replace(";", ""));
            }
        }
        Set<String> there = new TreeSet<>();
        for (var m : TuneLoans.class.getDeclaredMethods()) {
            if (java.lang.reflect.Modifier.isPrivate(m.getModifiers())) continue;
            there.add(m.toString().replace("TuneLoans.", ""));
        }
        if (told.size() != 35 || !told.equals(there)) broken("the face is " + there + ", told is " + told);
        for (var c : TuneLoans.class.getDeclaredConstructors()) {
            if (!c.toString().equals("public TuneLoans()")) broken("another constructor: " + c);
        }
        Set<String> constants = new TreeSet<>();
        for (var f : TuneLoans.class.getDeclaredFields()) {
            if (!java.lang.reflect.Modifier.isPrivate(f.getModifiers())) constants.add(f.getName());
        }
        if (!constants.equals(Set.of("NONE", "BAD", "NOT", "FULL"))) broken("constants: " + constants);
    }

    public static void main(String[] args) throws Exception {
        JavaCompiler compiler = ToolProvider.getSystemJavaCompiler();
        try (StandardJavaFileManager files = compiler.getStandardFileManager(null, null, null)) {
            JavacTask task = (JavacTask) compiler.getTask(null, files, null, Arrays.asList("-proc:none"), null,
                files.getJavaFileObjects(SOURCE));
            CompilationUnitTree unit = task.parse().iterator().next();
            task.analyze();
            LanguageTest test = new LanguageTest(unit, Trees.instance(task));
            test.new Scanner().scan(unit, null);
            test.whole();
        }
        face();
        System.out.println(wrong == 0 ? "the language's rules are kept" : wrong + " rules are broken");
        if (wrong != 0) System.exit(1);
    }
}
