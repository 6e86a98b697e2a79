import com.sun.source.tree.ArrayAccessTree;
import com.sun.source.tree.ClassTree;
import com.sun.source.tree.CompilationUnitTree;
import com.sun.source.tree.DoWhileLoopTree;
import com.sun.source.tree.EnhancedForLoopTree;
import com.sun.source.tree.ForLoopTree;
import com.sun.source.tree.MethodInvocationTree;
import com.sun.source.tree.MethodTree;
import com.sun.source.tree.NewArrayTree;
import com.sun.source.tree.NewClassTree;
import com.sun.source.tree.WhileLoopTree;
import com.sun.source.util.JavacTask;
import com.sun.source.util.TreePath;
import com.sun.source.util.TreePathScanner;
import com.sun.source.util.Trees;
import java.io.File;
import java.lang.reflect.Method;
import java.lang.reflect.Modifier;
import java.util.ArrayList;
import java.util.Arrays;
import java.util.HashSet;
import java.util.List;
import java.util.Map;
import java.util.Set;
import java.util.TreeMap;
import java.util.TreeSet;
import javax.lang.model.element.Element;
import javax.tools.JavaCompiler;
import javax.tools.StandardJavaFileManager;
import javax.tools.ToolProvider;

/**
 * Which method calls which, as javac reads the program: how deep calls go, which of them come back to
 * themselves, and where objects are made (rules 8, 11 and 12 of ../shared/LANGUAGE.md).
 */
public final class CallsTest {
    private static final int DEEPEST = 8;
    /** The methods that may come back to themselves: each carries its depth as an argument. */
    private static final Set<String> RECURSIVE = new TreeSet<>(Arrays.asList("Reader.readCloser", "Reader.readStep",
            "Reader.readSteps", "Speller.writeCloser", "Speller.writeStep", "Speller.writeSteps"));

    /** Those that use an index: each looks at it first. All others ask these. */
    private static final Set<String> BY_INDEX = new TreeSet<>(Arrays.asList("Ints.append", "Ints.at", "Ints.become",
            "Ints.becomeZeros", "Ints.drop", "Ints.put", "Reader.here", "ScopeWarden", "World", "World.become",
            "World.heldWithName", "World.scopeAt", "World.taskAt", "World.thingAt", "rowAt"));

    private static final Map<String, Set<String>> calls = new TreeMap<>();
    private static final Map<String, Integer> depths = new TreeMap<>();

    public static void main(String[] args) throws Exception {
        read("src/main/java/ScopeWarden.java");
        Due.isTrue("many methods were found", calls.size() > 100);
        Set<String> back = new TreeSet<>();
        for (String method : calls.keySet()) {
            if (reached(method).contains(method)) {
                back.add(method);
            }
        }
        Due.is("the methods that come back to themselves", back.toString(), RECURSIVE.toString());
        for (String method : calls.keySet()) {
            Due.isTrue(method + " goes " + depth(method) + " calls deep", depth(method) <= DEEPEST);
        }
        for (String method : calls.keySet()) {
            boolean used = isFace(method);
            for (Set<String> called : calls.values()) {
                used |= called.contains(method);
            }
            Due.isTrue(method + " is used", used);
        }
        Due.end();
    }

    private static boolean isFace(String method) {
        if (method.equals("ScopeWarden")) {
            return true;
        }
        for (Method m : ScopeWarden.class.getDeclaredMethods()) {
            if (m.getName().equals(method) && Modifier.isPublic(m.getModifiers())) {
                return true;
            }
        }
        return false;
    }

    /** All that a method calls, and what that calls, and so on. */
    private static Set<String> reached(String method) {
        Set<String> all = new HashSet<>();
        List<String> left = new ArrayList<>(calls.get(method));
        while (!left.isEmpty()) {
            String next = left.remove(left.size() - 1);
            if (all.add(next)) {
                left.addAll(calls.get(next));
            }
        }
        return all;
    }

    /** How many calls stand open at once behind that of a method, itself too, but for those of a recursion. */
    private static int depth(String method) {
        Integer known = depths.get(method);
        if (known == null) {
            int below = 0;
            for (String called : calls.get(method)) {
                if (!reached(called).contains(method)) {
                    below = Math.max(below, depth(called));
                }
            }
            known = 1 + below;
            depths.put(method, known);
        }
        return known;
    }

    private static void read(String file) throws Exception {
        JavaCompiler javac = ToolProvider.getSystemJavaCompiler();
        StandardJavaFileManager files = javac.getStandardFileManager(null, null, null);
        JavacTask task = (JavacTask) javac.getTask(null, files, null, Arrays.asList("-proc:none"), null,
                files.getJavaFileObjects(new File(file)));
        Iterable<? extends CompilationUnitTree> units = task.parse();
        task.analyze();
        new Notes(Trees.instance(task)).scan(units, null);
    }

    /** Notes the calls of each method, and looks at what stands in loops and brackets. */
    private static final class Notes extends TreePathScanner<Void, String> {
        private final Trees trees;
        private final Set<String> methods = new HashSet<>();
        private int loops;

        Notes(Trees trees) {
            this.trees = trees;
        }

        /** CLASS.METHOD for a class inside, METHOD for the outer one, CLASS for a constructor. */
        private static String nameOf(Element method) {
            String in = method.getEnclosingElement().toString();
            String name = method.getSimpleName().toString();
            if (name.equals("<init>")) {
                return method.getEnclosingElement().getSimpleName().toString();
            }
            return in.equals("ScopeWarden") ? name : method.getEnclosingElement().getSimpleName() + "." + name;
        }

        @Override
        public Void visitMethod(MethodTree tree, String in) {
            String method = nameOf(trees.getElement(getCurrentPath()));
            Due.isTrue("there being one method " + method + " alone", methods.add(method));
            calls.computeIfAbsent(method, m -> new TreeSet<>());
            return super.visitMethod(tree, method);
        }

        /** What stands in a field belongs to the constructor. */
        @Override
        public Void visitClass(ClassTree tree, String in) {
            String constructor = tree.getSimpleName().toString();
            calls.computeIfAbsent(constructor, m -> new TreeSet<>());
            return super.visitClass(tree, constructor);
        }

        @Override
        public Void visitMethodInvocation(MethodInvocationTree tree, String in) {
            note(trees.getElement(new TreePath(getCurrentPath(), tree.getMethodSelect())), in);
            return super.visitMethodInvocation(tree, in);
        }

        @Override
        public Void visitNewClass(NewClassTree tree, String in) {
            note(trees.getElement(getCurrentPath()), in);
            Due.isTrue("no " + tree + " in a loop of " + in, isConstructor(in) || loops == 0);
            return super.visitNewClass(tree, in);
        }

        @Override
        public Void visitNewArray(NewArrayTree tree, String in) {
            Due.isTrue(tree + " in " + in + " is made with its object", isConstructor(in));
            return super.visitNewArray(tree, in);
        }

        private static boolean isConstructor(String method) {
            return Character.isUpperCase(method.charAt(0)) && !method.contains(".");
        }

        private static void note(Element method, String in) {
            if (method.getEnclosingElement().toString().startsWith("ScopeWarden")) {
                calls.get(in).add(nameOf(method));
            }
        }

        @Override
        public Void visitForLoop(ForLoopTree tree, String in) {
            loops++;
            super.visitForLoop(tree, in);
            loops--;
            return null;
        }

        @Override
        public Void visitWhileLoop(WhileLoopTree tree, String in) {
            loops++;
            super.visitWhileLoop(tree, in);
            loops--;
            return null;
        }

        @Override
        public Void visitDoWhileLoop(DoWhileLoopTree tree, String in) {
            Due.isTrue("no do in " + in, false);
            return super.visitDoWhileLoop(tree, in);
        }

        @Override
        public Void visitEnhancedForLoop(EnhancedForLoopTree tree, String in) {
            Due.isTrue("no for over a row in " + in, false);
            return super.visitEnhancedForLoop(tree, in);
        }

        /** An index is used in few places: in Ints, where each is looked at, and where rows of objects are. */
        @Override
        public Void visitArrayAccess(ArrayAccessTree tree, String in) {
            Due.isTrue("no index in " + in + " without a look at it", BY_INDEX.contains(in));
            return super.visitArrayAccess(tree, in);
        }
    }
}
