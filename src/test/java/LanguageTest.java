import com.sun.source.tree.AssertTree;
import com.sun.source.tree.BinaryTree;
import com.sun.source.tree.ClassTree;
import com.sun.source.tree.CompilationUnitTree;
import com.sun.source.tree.ImportTree;
import com.sun.source.tree.LambdaExpressionTree;
import com.sun.source.tree.MemberReferenceTree;
import com.sun.source.tree.MethodInvocationTree;
import com.sun.source.tree.MethodTree;
import com.sun.source.tree.NewClassTree;
import com.sun.source.tree.SynchronizedTree;
import com.sun.source.tree.ThrowTree;
import com.sun.source.tree.Tree;
import com.sun.source.tree.TryTree;
import com.sun.source.tree.VariableTree;
import com.sun.source.util.JavacTask;
import com.sun.source.util.TreePath;
import com.sun.source.util.TreePathScanner;
import com.sun.source.util.Trees;
import java.io.File;
import java.util.Collection;
import java.util.HashMap;
import java.util.HashSet;
import java.util.List;
import java.util.Map;
import java.util.Set;
import java.util.TreeMap;
import java.util.TreeSet;
import javax.lang.model.element.Element;
import javax.lang.model.element.ElementKind;
import javax.lang.model.element.ExecutableElement;
import javax.lang.model.element.Modifier;
import javax.lang.model.element.TypeElement;
import javax.tools.JavaCompiler;
import javax.tools.StandardJavaFileManager;
import javax.tools.ToolProvider;

/** The rules of ../shared/LANGUAGE.md that can be read off the source: rules 1 to 6, 8, 11. */
public final class LanguageTest {
    private static final Due due = new Due("LanguageTest");
    private static final String SOURCE = "src/main/java/EveryMapWrong.java";
    private static final Set<String> LIBRARY = Set.of("String.length", "String.charAt", "String.isEmpty", "String.equals",
        "String.indexOf", "String.substring", "String.toCharArray", "StringBuilder.append", "StringBuilder.toString",
        "Integer.compare", "Integer.bitCount", "Integer.numberOfTrailingZeros", "Math.max", "Math.min", "Math.abs",
        "Math.floorMod", "Math.floorDiv", "System.arraycopy", "Arrays.copyOf", "Arrays.copyOfRange", "Arrays.fill",
        "Object.<init>", "Object.clone");
    private static final Set<String> IMPORTS = Set.of("java.util.Arrays", "java.util.ArrayList", "java.util.List");

    private final Trees trees;
    private final CompilationUnitTree unit;
    private final Map<String, Set<String>> calls = new TreeMap<>();
    private final Set<String> publicNames = new TreeSet<>();
    private final Set<String> otherNames = new TreeSet<>();
    private int classes;

    private LanguageTest(Trees trees, CompilationUnitTree unit) {
        this.trees = trees;
        this.unit = unit;
    }

    private static String nameOf(Element method) {
        StringBuilder name = new StringBuilder(method.getEnclosingElement().getSimpleName());
        return name.append('.').append(method.getSimpleName()).toString();
    }

    private long lines(Tree tree) {
        long from = trees.getSourcePositions().getStartPosition(unit, tree);
        long to = trees.getSourcePositions().getEndPosition(unit, tree);
        return unit.getLineMap().getLineNumber(to) - unit.getLineMap().getLineNumber(from) + 1;
    }

    private final class Reader extends TreePathScanner<Void, Void> {
        private String method = "";

        @Override
        public Void scan(Tree tree, Void none) {
            boolean banned = tree instanceof ThrowTree || tree instanceof TryTree || tree instanceof SynchronizedTree
                || tree instanceof AssertTree || tree instanceof LambdaExpressionTree || tree instanceof MemberReferenceTree;
            if (banned) {
                due.isTrue("rule 6: " + tree.getKind() + " in " + method, false);
            }
            return super.scan(tree, none);
        }

        @Override
        public Void visitImport(ImportTree tree, Void none) {
            due.isTrue("rule 4: " + tree, IMPORTS.contains(tree.getQualifiedIdentifier().toString()));
            return super.visitImport(tree, none);
        }

        @Override
        public Void visitClass(ClassTree tree, Void none) {
            classes++;
            TypeElement type = (TypeElement) trees.getElement(getCurrentPath());
            boolean outer = type.getEnclosingElement().getKind() == ElementKind.PACKAGE;
            due.isTrue("rule 2: " + tree.getSimpleName() + " is static", outer || type.getModifiers().contains(Modifier.STATIC));
            int fields = 0;
            for (Tree member : tree.getMembers()) {
                due.isTrue("rule 5: no initialiser block in " + tree.getSimpleName(), member.getKind() != Tree.Kind.BLOCK);
                if (member instanceof VariableTree) {
                    Set<Modifier> modifiers = ((VariableTree) member).getModifiers().getFlags();
                    boolean fixed = modifiers.contains(Modifier.FINAL);
                    due.isTrue("rule 5: " + member + " is final", fixed || !modifiers.contains(Modifier.STATIC));
                    fields += modifiers.contains(Modifier.STATIC) ? 0 : 1;
                }
                if (member instanceof MethodTree && ((MethodTree) member).getReturnType() != null) {
                    boolean open = ((MethodTree) member).getModifiers().getFlags().contains(Modifier.PUBLIC);
                    (open ? publicNames : otherNames).add(((MethodTree) member).getName().toString());
                }
            }
            due.isTrue("rule 11: " + tree.getSimpleName() + " has " + fields + " fields", fields <= 20);
            return super.visitClass(tree, none);
        }

        @Override
        public Void visitMethod(MethodTree tree, Void none) {
            method = nameOf(trees.getElement(getCurrentPath()));
            calls.computeIfAbsent(method, k -> new TreeSet<>());
            due.isTrue("rule 11: " + method + " takes at most seven", tree.getParameters().size() <= 7);
            due.isTrue("rule 11: " + method + " is " + lines(tree) + " lines long", lines(tree) <= 60);
            return super.visitMethod(tree, none);
        }

        @Override
        public Void visitMethodInvocation(MethodInvocationTree tree, Void none) {
            called(trees.getElement(new TreePath(getCurrentPath(), tree.getMethodSelect())));
            return super.visitMethodInvocation(tree, none);
        }

        @Override
        public Void visitNewClass(NewClassTree tree, Void none) {
            due.isTrue("rule 2: no anonymous class in " + method, tree.getClassBody() == null);
            called(trees.getElement(getCurrentPath()));
            return super.visitNewClass(tree, none);
        }

        @Override
        public Void visitBinary(BinaryTree tree, Void none) {
            boolean joins = tree.getKind() == Tree.Kind.PLUS
                && "java.lang.String".equals(String.valueOf(trees.getTypeMirror(getCurrentPath())));
            due.isTrue("rule 10: texts are not joined by + in " + method, !joins);
            return super.visitBinary(tree, none);
        }

        private void called(Element element) {
            ExecutableElement target = (ExecutableElement) element;
            String owner = target.getEnclosingElement().toString();
            if (owner.startsWith("EveryMapWrong")) {
                calls.computeIfAbsent(method, k -> new TreeSet<>()).add(nameOf(target));
            } else {
                due.isTrue("rule 4: " + nameOf(target), LIBRARY.contains(nameOf(target)));
            }
        }
    }

    private boolean reaches(String from, String to, Set<String> seen) {
        for (String next : calls.getOrDefault(from, Set.of())) {
            if (next.equals(to) || seen.add(next) && reaches(next, to, seen)) {
                return true;
            }
        }
        return false;
    }

    /** How deep calls go from a method on; methods that call one another count as one. */
    private int depth(String from, Map<String, Integer> known, Map<String, Boolean> recursive) {
        Integer before = known.get(from);
        if (before != null) {
            return before;
        }
        known.put(from, 0);
        int deepest = 0;
        boolean own = recursive.get(from);
        for (String next : calls.get(from)) {
            boolean together = own && recursive.get(next);
            deepest = Math.max(deepest, depth(next, known, recursive) - (together ? 1 : 0));
        }
        known.put(from, deepest + 1);
        return deepest + 1;
    }

    private void holdAgainstRules() {
        due.isTrue("rule 11: " + classes + " classes", classes <= 12);
        Set<String> shared = new TreeSet<>(publicNames);
        shared.retainAll(otherNames);
        due.isTrue("rule 1: names of public methods borne by others: " + shared, shared.isEmpty());
        Map<String, Boolean> recursive = new HashMap<>();
        Set<String> circles = new TreeSet<>();
        for (String name : calls.keySet()) {
            recursive.put(name, reaches(name, name, new HashSet<>()));
            if (recursive.get(name)) {
                circles.add(name);
            }
        }
        due.isTrue("rule 8: only the reader of texts goes in circles: " + circles, circles.equals(new TreeSet<>(List.of(
            "Reader.either", "Reader.both", "Reader.negation", "Reader.sum", "Reader.product", "Reader.single"))));
        Map<String, Integer> depths = new HashMap<>();
        for (String name : calls.keySet()) {
            int deep = depth(name, depths, recursive);
            due.isTrue("rule 11: calls go " + deep + " deep from " + name, deep <= 8);
        }
    }

    public static void main(String[] args) throws Exception {
        JavaCompiler compiler = ToolProvider.getSystemJavaCompiler();
        StandardJavaFileManager files = compiler.getStandardFileManager(null, null, null);
        JavacTask task = (JavacTask) compiler.getTask(null, files, null, List.of("-proc:none"), null,
            files.getJavaFileObjectsFromFiles(List.of(new File(SOURCE))));
        Collection<? extends CompilationUnitTree> units = List.copyOf((Collection<? extends CompilationUnitTree>) task.parse());
        task.analyze();
        for (CompilationUnitTree unit : units) {
            LanguageTest test = new LanguageTest(Trees.instance(task), unit);
            test.new Reader().scan(unit, null);
            test.holdAgainstRules();
        }
        due.end();
    }
}
