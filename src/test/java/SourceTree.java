import com.sun.source.tree.ClassTree;
import com.sun.source.tree.CompilationUnitTree;
import com.sun.source.tree.MethodInvocationTree;
import com.sun.source.tree.MethodTree;
import com.sun.source.tree.NewClassTree;
import com.sun.source.tree.ThrowTree;
import com.sun.source.tree.Tree;
import com.sun.source.tree.VariableTree;
import com.sun.source.util.JavacTask;
import com.sun.source.util.TreePathScanner;
import com.sun.source.util.Trees;
import java.io.IOException;
import java.nio.file.Path;
import java.util.ArrayDeque;
import java.util.ArrayList;
import java.util.Deque;
import java.util.List;
import java.util.Map;
import java.util.Set;
import java.util.TreeMap;
import java.util.TreeSet;
import javax.lang.model.element.Element;
import javax.lang.model.element.Modifier;
import javax.tools.JavaCompiler;
import javax.tools.StandardJavaFileManager;
import javax.tools.ToolProvider;

/** A source as the compiler sees it: its classes and methods, what calls what, and what is thrown. */
final class SourceTree extends TreePathScanner<Void, String> {
    private final String outermost;
    private Trees trees;
    private CompilationUnitTree unit;

    /** How many fields that are not static each class has. */
    final Map<String, Integer> fields = new TreeMap<>();
    final Set<String> sharedClasses = new TreeSet<>();
    final Map<String, Integer> lines = new TreeMap<>();
    final Map<String, Integer> parameters = new TreeMap<>();
    final Set<String> library = new TreeSet<>();
    /** The expression behind each throw, ahead of it the method that holds it. */
    final Set<String> thrown = new TreeSet<>();
    private final Map<String, Set<String>> calls = new TreeMap<>();

    private SourceTree(String outermost) {
        this.outermost = outermost;
    }

    static SourceTree of(Path source) throws IOException {
        SourceTree tree = new SourceTree(source.getFileName().toString().replace(".java", ""));
        JavaCompiler compiler = ToolProvider.getSystemJavaCompiler();
        try (StandardJavaFileManager files = compiler.getStandardFileManager(null, null, null)) {
            JavacTask task = (JavacTask) compiler.getTask(null, files, null, List.of("-proc:none"), null,
                    files.getJavaFileObjects(source));
            tree.trees = Trees.instance(task);
            Iterable<? extends CompilationUnitTree> units = task.parse();
            task.analyze();
            for (CompilationUnitTree unit : units) {
                tree.unit = unit;
                tree.scan(unit, "");
            }
        }
        return tree;
    }

    /** The calls that stand open at once, the first of them a call of the method; those of a recursion have no end. */
    List<String> longestChain() {
        List<String> longest = List.of();
        for (String method : calls.keySet()) {
            List<String> chain = chainFrom(method, new ArrayDeque<>());
            longest = chain.size() > longest.size() ? chain : longest;
        }
        return longest;
    }

    boolean isRecursive() {
        return longestChain().contains("a recursion");
    }

    private List<String> chainFrom(String method, Deque<String> open) {
        if (open.contains(method)) {
            return List.of("a recursion");
        }
        open.addLast(method);
        List<String> longest = List.of();
        for (String called : calls.getOrDefault(method, Set.of())) {
            List<String> chain = chainFrom(called, open);
            boolean isLonger = chain.size() > longest.size() && !longest.contains("a recursion");
            longest = isLonger || chain.contains("a recursion") ? chain : longest;
        }
        open.removeLast();
        List<String> whole = new ArrayList<>(List.of(method));
        whole.addAll(longest);
        return whole;
    }

    @Override
    public Void visitClass(ClassTree node, String place) {
        String name = node.getSimpleName().toString();
        Set<Modifier> modifiers = node.getModifiers().getFlags();
        boolean isHidden = !modifiers.contains(Modifier.PUBLIC) && !modifiers.contains(Modifier.PROTECTED);
        if (!name.equals(outermost) && !(isHidden && modifiers.contains(Modifier.STATIC))) {
            sharedClasses.add(name);
        }
        int count = 0;
        for (Tree member : node.getMembers()) {
            boolean isField = member instanceof VariableTree field
                    && !field.getModifiers().getFlags().contains(Modifier.STATIC);
            count += isField ? 1 : 0;
        }
        fields.put(name, count);
        return super.visitClass(node, name);
    }

    @Override
    public Void visitMethod(MethodTree node, String place) {
        String name = place + "." + node.getName();
        parameters.put(name, node.getParameters().size());
        lines.put(name, (int) (line(trees.getSourcePositions().getEndPosition(unit, node))
                - line(trees.getSourcePositions().getStartPosition(unit, node)) + 1));
        calls.putIfAbsent(name, new TreeSet<>());
        return super.visitMethod(node, name);
    }

    private long line(long position) {
        return unit.getLineMap().getLineNumber(position);
    }

    @Override
    public Void visitMethodInvocation(MethodInvocationTree node, String place) {
        noteCall(trees.getElement(getCurrentPath()), place);
        return super.visitMethodInvocation(node, place);
    }

    @Override
    public Void visitNewClass(NewClassTree node, String place) {
        noteCall(trees.getElement(getCurrentPath()), place);
        return super.visitNewClass(node, place);
    }

    @Override
    public Void visitThrow(ThrowTree node, String place) {
        thrown.add(place + ": " + node.getExpression());
        return super.visitThrow(node, place);
    }

    private void noteCall(Element called, String place) {
        Element owner = called.getEnclosingElement();
        if (owner.toString().startsWith(outermost)) {
            calls.computeIfAbsent(place, key -> new TreeSet<>()).add(owner.getSimpleName() + "." + called.getSimpleName());
        } else {
            library.add(owner.getSimpleName() + "." + called.getSimpleName());
        }
    }
}
