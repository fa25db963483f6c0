import com.sun.source.tree.AssertTree;
import com.sun.source.tree.ClassTree;
import com.sun.source.tree.CompilationUnitTree;
import com.sun.source.tree.LambdaExpressionTree;
import com.sun.source.tree.LineMap;
import com.sun.source.tree.MemberReferenceTree;
import com.sun.source.tree.MethodInvocationTree;
import com.sun.source.tree.MethodTree;
import com.sun.source.tree.NewArrayTree;
import com.sun.source.tree.NewClassTree;
import com.sun.source.tree.SynchronizedTree;
import com.sun.source.tree.ThrowTree;
import com.sun.source.tree.Tree;
import com.sun.source.tree.TryTree;
import com.sun.source.tree.VariableTree;
import com.sun.source.util.JavacTask;
import com.sun.source.util.TreePath;
import com.sun.source.util.TreePathScanner;
import com.sun.source.util.Trees;
import java.io.File;
import java.io.IOException;
import java.util.List;
import java.util.Map;
import java.util.Set;
import java.util.TreeMap;
import java.util.TreeSet;
import javax.lang.model.element.Element;
import javax.lang.model.element.ElementKind;
import javax.lang.model.element.Modifier;
import javax.lang.model.element.TypeElement;
import javax.tools.JavaCompiler;
import javax.tools.StandardJavaFileManager;
import javax.tools.ToolProvider;

/**
 * The rules of LANGUAGE.md that can be read off the source, with the compiler's own tree of it. The
 * class is held to more than the rules ask: it makes objects in constructors alone, and nothing in it
 * is recursive.
 */
public final class LanguageTest {
    private static final File SOURCE = new File("src/main/java/SurrogateTree.java");
    private static final Set<String> LIBRARY = Set.of("Math.max", "Math.abs", "Math.floorDiv", "Integer.bitCount");
    private static final int MOST_CLASSES = 12;
    private static final int MOST_FIELDS = 20;
    private static final int MOST_PARAMETERS = 7;
    private static final int MOST_LINES = 60;
    private static final int DEEPEST_CALLS = 8;

    public static void main(String[] args) throws IOException {
        JavaCompiler compiler = ToolProvider.getSystemJavaCompiler();
        try (StandardJavaFileManager files = compiler.getStandardFileManager(null, null, null)) {
            List<String> options = List.of("--release", "17", "-proc:none");
            JavacTask task = (JavacTask) compiler.getTask(
                null, files, null, options, null, files.getJavaFileObjects(SOURCE));
            CompilationUnitTree unit = task.parse().iterator().next();
            task.analyze();
            Check.same("imports", unit.getImports().size(), 0);
            Check.isTrue("no package line", unit.getPackage() == null);
            Rules rules = new Rules(unit, Trees.instance(task));
            rules.scan(unit, null);
            rules.end();
        }
        Check.end();
    }

    /** Looks at every class, field, method and call. */
    private static final class Rules extends TreePathScanner<Void, Void> {
        private final CompilationUnitTree unit;
        private final Trees trees;
        private final Map<String, Set<String>> callsOf = new TreeMap<>();
        private final Set<String> publicNames = new TreeSet<>();
        private final Set<String> privateNames = new TreeSet<>();
        private int classes = 0;
        /** The method that is being looked at. */
        private String caller = "";
        private boolean inConstructor = false;

        Rules(CompilationUnitTree unit, Trees trees) {
            this.unit = unit;
            this.trees = trees;
        }

        @Override
        public Void visitClass(ClassTree tree, Void none) {
            classes++;
            Element element = trees.getElement(getCurrentPath());
            String name = element.getSimpleName().toString();
            boolean nested = element.getEnclosingElement() instanceof TypeElement;
            Check.isTrue("rule 2: " + name + " is the class itself or a static one inside it",
                name.equals("SurrogateTree") || nested && element.getModifiers().contains(Modifier.STATIC));
            int fields = 0;
            for (Tree member : tree.getMembers()) {
                Check.isTrue("rule 5: no initialiser block in " + name, member.getKind() != Tree.Kind.BLOCK);
                if (member instanceof VariableTree field && !isStatic(field)) {
                    fields++;
                }
            }
            Check.isTrue("rule 11: " + name + " has " + fields + " fields", fields <= MOST_FIELDS);
            return super.visitClass(tree, none);
        }

        private static boolean isStatic(VariableTree field) {
            return field.getModifiers().getFlags().contains(Modifier.STATIC);
        }

        @Override
        public Void visitVariable(VariableTree tree, Void none) {
            if (isStatic(tree)) {
                Check.isTrue("rule 5: " + tree.getName() + " is a constant int or long",
                    tree.getModifiers().getFlags().contains(Modifier.FINAL) && tree.getInitializer() != null
                    && Set.of("int", "long").contains(tree.getType().toString()));
            }
            return super.visitVariable(tree, none);
        }

        @Override
        public Void visitMethod(MethodTree tree, Void none) {
            Element element = trees.getElement(getCurrentPath());
            caller = nameOf(element);
            inConstructor = element.getKind() == ElementKind.CONSTRUCTOR;
            callsOf.putIfAbsent(caller, new TreeSet<>());
            Check.isTrue("rule 11: parameters of " + caller, tree.getParameters().size() <= MOST_PARAMETERS);
            Check.isTrue("rule 11: " + caller + " has " + linesOf(tree) + " lines", linesOf(tree) <= MOST_LINES);
            if (!inConstructor) {
                boolean isPublic = element.getModifiers().contains(Modifier.PUBLIC);
                (isPublic ? publicNames : privateNames).add(tree.getName().toString());
            }
            return super.visitMethod(tree, none);
        }

        private long linesOf(MethodTree tree) {
            LineMap lines = unit.getLineMap();
            long first = lines.getLineNumber(trees.getSourcePositions().getStartPosition(unit, tree));
            return lines.getLineNumber(trees.getSourcePositions().getEndPosition(unit, tree)) - first + 1;
        }

        /** No two methods of one class have one name here, so the class and the name are enough. */
        private static String nameOf(Element method) {
            return method.getEnclosingElement().getSimpleName() + "." + method.getSimpleName();
        }

        @Override
        public Void visitMethodInvocation(MethodInvocationTree tree, Void none) {
            Element called = trees.getElement(new TreePath(getCurrentPath(), tree.getMethodSelect()));
            boolean isSuper = called.getKind() == ElementKind.CONSTRUCTOR;
            if (trees.getPath(called) != null) {
                callsOf.get(caller).add(nameOf(called));
            } else {
                Check.isTrue("rule 4: " + nameOf(called) + " in " + caller, isSuper || LIBRARY.contains(nameOf(called)));
            }
            return super.visitMethodInvocation(tree, none);
        }

        @Override
        public Void visitNewClass(NewClassTree tree, Void none) {
            Element made = trees.getElement(getCurrentPath());
            Check.isTrue("rule 2: no anonymous class in " + caller, tree.getClassBody() == null);
            Check.isTrue("rule 3: own classes alone in " + caller, trees.getPath(made.getEnclosingElement()) != null);
            Check.isTrue("rule 12: an object is made in a constructor, not in " + caller, inConstructor);
            callsOf.get(caller).add(nameOf(made));
            return super.visitNewClass(tree, none);
        }

        @Override
        public Void visitNewArray(NewArrayTree tree, Void none) {
            Check.isTrue("rule 12: an array is made in a constructor, not in " + caller, inConstructor);
            return super.visitNewArray(tree, none);
        }

        @Override
        public Void visitLambdaExpression(LambdaExpressionTree tree, Void none) {
            return refused("rule 2: lambda");
        }

        @Override
        public Void visitMemberReference(MemberReferenceTree tree, Void none) {
            return refused("rule 2: method reference");
        }

        @Override
        public Void visitThrow(ThrowTree tree, Void none) {
            return refused("rule 6: throw");
        }

        @Override
        public Void visitTry(TryTree tree, Void none) {
            return refused("rule 6: try");
        }

        @Override
        public Void visitSynchronized(SynchronizedTree tree, Void none) {
            return refused("rule 6: synchronized");
        }

        @Override
        public Void visitAssert(AssertTree tree, Void none) {
            return refused("rule 6: assert");
        }

        private Void refused(String what) {
            Check.isTrue(what + " in " + caller, false);
            return null;
        }

        void end() {
            Check.isTrue("rule 11: " + classes + " classes", classes <= MOST_CLASSES);
            Check.same("the public methods were seen", publicNames.size(), 19);
            for (String name : privateNames) {
                Check.isTrue("rule 1: " + name + " has a public method's name", !publicNames.contains(name));
            }
            for (String method : callsOf.keySet()) {
                int depth = depthFrom(method, DEEPEST_CALLS + 1);
                Check.isTrue("rules 8 and 11: calls " + depth + " deep from " + method, depth <= DEEPEST_CALLS);
            }
        }

        /** How many calls stand open at once; a recursion would use up all that is left. */
        private int depthFrom(String method, int left) {
            int deepest = 0;
            if (left > 1) {
                for (String called : callsOf.getOrDefault(method, Set.of())) {
                    deepest = Math.max(deepest, depthFrom(called, left - 1));
                }
            }
            return deepest + 1;
        }
    }
}
