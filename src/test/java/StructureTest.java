import com.sun.source.tree.ClassTree;
import com.sun.source.tree.CompilationUnitTree;
import com.sun.source.tree.MethodInvocationTree;
import com.sun.source.tree.MethodTree;
import com.sun.source.tree.NewArrayTree;
import com.sun.source.tree.NewClassTree;
import com.sun.source.util.JavacTask;
import com.sun.source.util.TreePathScanner;
import com.sun.source.util.Trees;
import java.nio.file.Path;
import java.util.ArrayDeque;
import java.util.Deque;
import java.util.HashSet;
import java.util.List;
import java.util.Map;
import java.util.Set;
import java.util.TreeMap;
import java.util.TreeSet;
import javax.lang.model.element.Element;
import javax.lang.model.element.ElementKind;
import javax.lang.model.element.Modifier;
import javax.lang.model.element.TypeElement;
import javax.tools.JavaCompiler;
import javax.tools.StandardJavaFileManager;
import javax.tools.ToolProvider;

/** The rules of LANGUAGE.md that show in the tree of the source: who calls whom, and what is made. */
public final class StructureTest {
    private static final Path SOURCE = Path.of("src/main/java/ChangingRounds.java");
    private static final String FACE = "ChangingRounds.";
    private static final int DEEPEST_CALL = 8;
    private static final int MOST_PARAMETERS = 7;
    private static final int MOST_FIELDS = 20;
    /** What the class uses of the library, all of it allowed by rule 4. */
    private static final Set<String> LIBRARY = Set.of("Integer.bitCount", "Math.max", "Math.min",
            "String.length", "String.charAt");
    private static final Check check = new Check();

    /** Each method or constructor with those that it calls. */
    private final Map<String, Set<String>> calls = new TreeMap<>();
    private final Map<String, Integer> depths = new TreeMap<>();
    private final Set<String> library = new TreeSet<>();
    private final Set<String> makers = new TreeSet<>();
    private final Set<String> publicNames = new HashSet<>();
    private final Set<String> privateNames = new HashSet<>();

    public static void main(String[] args) throws Exception {
        StructureTest test = new StructureTest();
        test.read();
        test.compare();
        check.end();
    }

    private void read() throws Exception {
        JavaCompiler compiler = ToolProvider.getSystemJavaCompiler();
        try (StandardJavaFileManager files = compiler.getStandardFileManager(null, null, null)) {
            JavacTask task = (JavacTask) compiler.getTask(null, files, null,
                    List.of("-proc:none"), null, files.getJavaFileObjects(SOURCE));
            Iterable<? extends CompilationUnitTree> units = task.parse();
            task.analyze();
            for (CompilationUnitTree unit : units) {
                new Reader(Trees.instance(task)).scan(unit, null);
            }
        }
    }

    private void compare() {
        check.holds("the methods of the face are seen", calls.containsKey(FACE + "setNodes")
                && calls.containsKey(FACE + "undo") && publicNames.size() == 30);
        for (String method : calls.keySet()) {
            check.holds(method + " calls not itself, by no way", !reaches(method));
        }
        if (calls.keySet().stream().noneMatch(this::reaches)) {
            for (String method : calls.keySet()) {
                int depth = depthOf(method);
                check.holds(method + " goes " + depth + " deep", depth <= DEEPEST_CALL);
            }
        }
        library.removeAll(LIBRARY);
        check.holds("no other library than rule 4 has: " + library, library.isEmpty());
        makers.removeIf(maker -> maker.endsWith(".<init>"));
        check.holds("only constructors make objects: " + makers, makers.isEmpty());
        privateNames.retainAll(publicNames);
        check.holds("no private method with a public name: " + privateNames, privateNames.isEmpty());
    }

    /** Tells whether a method can come back to itself. */
    private boolean reaches(String method) {
        Deque<String> open = new ArrayDeque<>(calls.get(method));
        Set<String> seen = new HashSet<>();
        while (!open.isEmpty()) {
            String next = open.pop();
            if (next.equals(method)) {
                return true;
            }
            if (seen.add(next)) {
                open.addAll(calls.getOrDefault(next, Set.of()));
            }
        }
        return false;
    }

    /** The methods that stand open at once at most, the method itself being the first one. */
    private int depthOf(String method) {
        Integer known = depths.get(method);
        if (known != null) {
            return known;
        }
        int below = 0;
        for (String called : calls.getOrDefault(method, Set.of())) {
            below = Math.max(below, depthOf(called));
        }
        depths.put(method, below + 1);
        return below + 1;
    }

    private final class Reader extends TreePathScanner<Void, Void> {
        private final Trees trees;
        private String method = "";

        Reader(Trees trees) {
            this.trees = trees;
        }

        @Override
        public Void visitClass(ClassTree tree, Void none) {
            TypeElement type = (TypeElement) trees.getElement(getCurrentPath());
            long fields = type.getEnclosedElements().stream()
                    .filter(member -> member.getKind() == ElementKind.FIELD)
                    .filter(member -> !member.getModifiers().contains(Modifier.STATIC))
                    .count();
            check.holds(type + " has " + fields + " fields", fields <= MOST_FIELDS);
            return super.visitClass(tree, none);
        }

        @Override
        public Void visitMethod(MethodTree tree, Void none) {
            Element element = trees.getElement(getCurrentPath());
            method = nameOf(element);
            calls.computeIfAbsent(method, name -> new TreeSet<>());
            int parameters = tree.getParameters().size();
            check.holds(method + " has " + parameters + " parameters", parameters <= MOST_PARAMETERS);
            Set<Modifier> modifiers = element.getModifiers();
            if (element.getKind() == ElementKind.METHOD && modifiers.contains(Modifier.PUBLIC)) {
                publicNames.add(tree.getName().toString());
            }
            if (modifiers.contains(Modifier.PRIVATE)) {
                privateNames.add(tree.getName().toString());
            }
            super.visitMethod(tree, none);
            method = "";
            return null;
        }

        @Override
        public Void visitMethodInvocation(MethodInvocationTree tree, Void none) {
            called(trees.getElement(getCurrentPath()));
            return super.visitMethodInvocation(tree, none);
        }

        @Override
        public Void visitNewClass(NewClassTree tree, Void none) {
            makers.add(method);
            called(trees.getElement(getCurrentPath()));
            return super.visitNewClass(tree, none);
        }

        @Override
        public Void visitNewArray(NewArrayTree tree, Void none) {
            // A row that is a field's first value is made with its object.
            if (!method.isEmpty()) {
                makers.add(method);
            }
            return super.visitNewArray(tree, none);
        }

        private void called(Element element) {
            boolean isOwn = trees.getTree(element) != null;
            String name = nameOf(element);
            if (isOwn) {
                calls.computeIfAbsent(method, caller -> new TreeSet<>()).add(name);
            } else if (!name.equals("Object.<init>")) {
                library.add(name);
            }
        }

        private String nameOf(Element element) {
            return element.getEnclosingElement().getSimpleName() + "." + element.getSimpleName();
        }
    }
}
