import com.sun.source.tree.CompilationUnitTree;
import com.sun.source.tree.MethodInvocationTree;
import com.sun.source.tree.MethodTree;
import com.sun.source.tree.NewArrayTree;
import com.sun.source.tree.NewClassTree;
import com.sun.source.tree.Tree;
import com.sun.source.util.JavacTask;
import com.sun.source.util.TreePathScanner;
import com.sun.source.util.Trees;
import java.io.File;
import java.util.ArrayList;
import java.util.HashMap;
import java.util.HashSet;
import java.util.LinkedHashMap;
import java.util.LinkedHashSet;
import java.util.List;
import java.util.Map;
import java.util.Set;
import javax.lang.model.element.Element;
import javax.lang.model.element.ElementKind;
import javax.lang.model.element.Modifier;
import javax.tools.JavaCompiler;
import javax.tools.StandardJavaFileManager;
import javax.tools.ToolProvider;

/**
 * What of LANGUAGE.md is about who calls whom: how deep (rule 11), what comes back to itself (8), what is made where (12).
 * Argument: the program's file. The calls are read from the tree that javac itself makes of it.
 */
public final class CallRules extends TreePathScanner<Void, Void> {
    private static final int DEEPEST = 8;

    private final Trees trees;
    private final Map<Element, Set<Element>> calls = new LinkedHashMap<>();
    private final Map<Element, Integer> depths = new HashMap<>();
    private Element caller;
    private int wrong;

    private CallRules(Trees trees) {
        this.trees = trees;
    }

    public static void main(String[] arguments) throws Exception {
        JavaCompiler compiler = ToolProvider.getSystemJavaCompiler();
        StandardJavaFileManager files = compiler.getStandardFileManager(null, null, null);
        JavacTask task = (JavacTask) compiler.getTask(null, files, null, List.of("-proc:none"), null,
            files.getJavaFileObjects(new File(arguments[0])));
        List<CompilationUnitTree> units = new ArrayList<>();
        task.parse().forEach(units::add);
        task.analyze();
        CallRules rules = new CallRules(Trees.instance(task));
        for (CompilationUnitTree unit : units) rules.scan(unit, null);
        rules.look();
        System.out.println(rules.wrong == 0 ? "the rules on calls are kept" : rules.wrong + " rules on calls are not kept");
        if (rules.wrong != 0) System.exit(1);
    }

    private void hold(boolean holds, String rule) {
        if (!holds) {
            wrong++;
            System.out.println("not kept: " + rule);
        }
    }

    @Override
    public Void visitMethod(MethodTree tree, Void none) {
        caller = trees.getElement(getCurrentPath());
        calls.computeIfAbsent(caller, key -> new LinkedHashSet<>());
        super.visitMethod(tree, none);
        caller = null;
        return null;
    }

    @Override
    public Void visitMethodInvocation(MethodInvocationTree tree, Void none) {
        Element called = trees.getElement(getCurrentPath());
        hold(called != null && caller != null, "a call of a known method within a method: " + tree);
        // Every constructor begins with super(): Object's own, which is no call of the program's.
        if (called != null && caller != null && !tree.toString().equals("super()")) calls.get(caller).add(called);
        return super.visitMethodInvocation(tree, none);
    }

    @Override
    public Void visitNewClass(NewClassTree tree, Void none) {
        made(tree);
        if (caller != null) calls.get(caller).add(trees.getElement(getCurrentPath()));
        return super.visitNewClass(tree, none);
    }

    @Override
    public Void visitNewArray(NewArrayTree tree, Void none) {
        // Without a type: a constant array, written out.
        if (tree.getType() != null) made(tree);
        return super.visitNewArray(tree, none);
    }

    private void made(Tree tree) {
        boolean atOnce = caller != null && caller.getKind() == ElementKind.CONSTRUCTOR;
        hold(atOnce, "rule 12: made once, in a constructor: " + tree);
    }

    private void look() {
        hold(calls.size() > 100, "all methods are seen: " + calls.size());
        for (Element method : calls.keySet()) {
            Set<Element> group = group(method);
            if (!group.isEmpty()) recursion(method, group);
            boolean shown = method.getModifiers().contains(Modifier.PUBLIC);
            hold(!shown || depth(method) <= DEEPEST, "rule 11: at most eight deep: " + name(method) + " " + depth(method));
        }
    }

    private void recursion(Element method, Set<Element> group) {
        hold(method.getModifiers().contains(Modifier.PRIVATE), "rule 8: private, if it comes back to itself: " + name(method));
        boolean several = group.size() > 1;
        hold(several || method.getModifiers().contains(Modifier.STATIC), "rule 8: static, if it calls itself: " + name(method));
    }

    private Set<Element> below(Element method) {
        Set<Element> seen = new HashSet<>();
        List<Element> ahead = new ArrayList<>(calls.getOrDefault(method, Set.of()));
        while (!ahead.isEmpty()) {
            Element next = ahead.remove(ahead.size() - 1);
            if (seen.add(next)) ahead.addAll(calls.getOrDefault(next, Set.of()));
        }
        return seen;
    }

    /** Those that call it and that it calls, over however many others; none: it is no recursion. */
    private Set<Element> group(Element method) {
        Set<Element> group = new HashSet<>();
        for (Element other : below(method)) if (below(other).contains(method)) group.add(other);
        return group;
    }

    /** How many calls stand open at most, the library's too; those that come back to themselves count as one. */
    private int depth(Element method) {
        if (depths.containsKey(method)) return depths.get(method);
        Set<Element> group = new HashSet<>(group(method));
        group.add(method);
        int deepest = 0;
        for (Element member : group) {
            for (Element called : calls.getOrDefault(member, Set.of())) {
                if (!group.contains(called)) deepest = Math.max(deepest, depth(called));
            }
        }
        depths.put(method, deepest + 1);
        return deepest + 1;
    }

    private static String name(Element method) {
        return method.getEnclosingElement().getSimpleName() + "." + method.getSimpleName();
    }
}
