import com.sun.source.tree.ClassTree;
import com.sun.source.tree.CompilationUnitTree;
import com.sun.source.tree.MethodInvocationTree;
import com.sun.source.tree.MethodTree;
import com.sun.source.tree.NewArrayTree;
import com.sun.source.tree.NewClassTree;
import com.sun.source.tree.VariableTree;
import com.sun.source.util.JavacTask;
import com.sun.source.util.TreePathScanner;
import com.sun.source.util.Trees;
import java.io.File;
import java.util.HashMap;
import java.util.HashSet;
import java.util.List;
import java.util.Map;
import java.util.Set;
import java.util.TreeSet;
import javax.lang.model.element.Element;
import javax.lang.model.element.ElementKind;
import javax.lang.model.element.Modifier;
import javax.lang.model.element.TypeElement;
import javax.tools.JavaCompiler;
import javax.tools.StandardJavaFileManager;
import javax.tools.ToolProvider;

/**
 * Rules 4, 8, 11 and 12 of LANGUAGE.md, as the compiler sees the class: no recursion, calls eight deep at most, twelve
 * classes, twenty fields each, nothing of the library but what is told, nothing made outside constructors.
 */
final class RulesTest {
    private static final int MOST_DEEP = 8;
    private static final Set<String> LIBRARY = Set.of("java.lang.String.length", "java.lang.String.charAt",
            "java.lang.System.arraycopy", "java.lang.Math.abs", "java.lang.Math.max", "java.lang.Math.min",
            "java.lang.Integer.bitCount");

    private final Map<Element, Set<Element>> calls = new HashMap<>();
    private final Map<Element, Integer> depths = new HashMap<>();
    private final Set<String> outside = new TreeSet<>();
    private int classes;

    public static void main(String[] args) throws Exception {
        RulesTest rules = new RulesTest();
        rules.look(new File("src/main/java/FuneralUmbrellas.java"));
        Check.due("classes, at most twelve: " + rules.classes, rules.classes <= 12, true);
        for (Element method : rules.calls.keySet()) {
            int deep = rules.deep(method, new HashSet<>());
            Check.due(method + " of " + method.getEnclosingElement() + " goes " + deep + " deep",
                    deep >= 1 && deep <= MOST_DEEP, true);
        }
        for (String call : rules.outside) {
            Check.due(call + " is of the library told", LIBRARY.contains(call), true);
        }
        Check.finish("RulesTest");
    }

    private void look(File file) throws Exception {
        JavaCompiler compiler = ToolProvider.getSystemJavaCompiler();
        try (StandardJavaFileManager files = compiler.getStandardFileManager(null, null, null)) {
            JavacTask task = (JavacTask) compiler.getTask(null, files, null, List.of("-proc:none"), null,
                    files.getJavaFileObjects(file));
            Iterable<? extends CompilationUnitTree> units = task.parse();
            task.analyze();
            Trees trees = Trees.instance(task);
            for (CompilationUnitTree unit : units) {
                new Looker(trees).scan(unit, null);
            }
        }
    }

    /** How many calls stand open at once at most, this one counted; far too many if it comes to itself again. */
    private int deep(Element method, Set<Element> open) {
        if (depths.containsKey(method)) {
            return depths.get(method);
        }
        if (!open.add(method)) {
            return 1000;
        }
        int most = 0;
        for (Element called : calls.getOrDefault(method, Set.of())) {
            most = Math.max(most, deep(called, open));
        }
        open.remove(method);
        depths.put(method, most + 1);
        return most + 1;
    }

    private final class Looker extends TreePathScanner<Void, Element> {
        private final Trees trees;

        Looker(Trees trees) {
            this.trees = trees;
        }

        @Override
        public Void visitClass(ClassTree tree, Element in) {
            classes++;
            Element type = trees.getElement(getCurrentPath());
            int fields = 0;
            for (Element member : type.getEnclosedElements()) {
                boolean isConstant = member.getModifiers().contains(Modifier.STATIC);
                fields += member.getKind() == ElementKind.FIELD && !isConstant ? 1 : 0;
                boolean changes = member.getKind() == ElementKind.FIELD && isConstant
                        && !member.getModifiers().contains(Modifier.FINAL);
                Check.due(member + " of " + type + " is static and not final", changes, false);
            }
            Check.due(type + " has " + fields + " fields", fields <= 20, true);
            Check.due(type + " is static", type.getModifiers().contains(Modifier.STATIC)
                    || type.getEnclosingElement().getKind() == ElementKind.PACKAGE, true);
            return super.visitClass(tree, in);
        }

        @Override
        public Void visitMethod(MethodTree tree, Element in) {
            Element method = trees.getElement(getCurrentPath());
            calls.putIfAbsent(method, new HashSet<>());
            Check.due(method + " has parameters", tree.getParameters().size() <= 7, true);
            return super.visitMethod(tree, method);
        }

        @Override
        public Void visitVariable(VariableTree tree, Element in) {
            Element variable = trees.getElement(getCurrentPath());
            // what a field begins with is made as part of its constructor
            return super.visitVariable(tree, variable.getKind() == ElementKind.FIELD ? null : in);
        }

        @Override
        public Void visitMethodInvocation(MethodInvocationTree tree, Element in) {
            Element called = trees.getElement(getCurrentPath());
            TypeElement owner = (TypeElement) called.getEnclosingElement();
            String name = owner.getQualifiedName() + "." + called.getSimpleName();
            boolean isOurs = name.startsWith("FuneralUmbrellas");
            boolean isMade = called.getKind() == ElementKind.CONSTRUCTOR || called.getSimpleName().contentEquals("values");
            if (isOurs && in != null) {
                calls.computeIfAbsent(in, key -> new HashSet<>()).add(called);
            } else if (!isOurs && !isMade) {
                outside.add(name);
            }
            return super.visitMethodInvocation(tree, in);
        }

        @Override
        public Void visitNewClass(NewClassTree tree, Element in) {
            boolean inConstructor = in == null || in.getKind() == ElementKind.CONSTRUCTOR;
            boolean isThrown = tree.getIdentifier().toString().equals("NoSuchElementException");
            Check.due(tree + " is made in a constructor, or thrown", inConstructor || isThrown, true);
            return super.visitNewClass(tree, in);
        }

        @Override
        public Void visitNewArray(NewArrayTree tree, Element in) {
            boolean inConstructor = in == null || in.getKind() == ElementKind.CONSTRUCTOR;
            Check.due(tree + " is made in a constructor", inConstructor, true);
            return super.visitNewArray(tree, in);
        }
    }
}
