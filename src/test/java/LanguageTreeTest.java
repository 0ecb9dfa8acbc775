import com.sun.source.tree.ClassTree;
import com.sun.source.tree.CompilationUnitTree;
import com.sun.source.tree.LambdaExpressionTree;
import com.sun.source.tree.MemberReferenceTree;
import com.sun.source.tree.MethodInvocationTree;
import com.sun.source.tree.MethodTree;
import com.sun.source.tree.NewArrayTree;
import com.sun.source.tree.NewClassTree;
import com.sun.source.tree.ThrowTree;
import com.sun.source.tree.TypeCastTree;
import com.sun.source.tree.VariableTree;
import com.sun.source.util.JavacTask;
import com.sun.source.util.TreePathScanner;
import com.sun.source.util.Trees;
import java.io.IOException;
import java.util.HashMap;
import java.util.HashSet;
import java.util.List;
import java.util.Map;
import java.util.Set;
import java.util.TreeMap;
import java.util.TreeSet;
import javax.lang.model.element.Element;
import javax.lang.model.element.ElementKind;
import javax.lang.model.element.Modifier;
import javax.tools.JavaCompiler;
import javax.tools.StandardJavaFileManager;
import javax.tools.ToolProvider;

/** What of LANGUAGE.md needs to know what a name in the source means: the rules 2, 4, 5, 6, 8, 11. */
public final class LanguageTreeTest extends TreePathScanner<Void, Void> {
    private static final Set<String> LIBRARY = Set.of("String.length", "String.charAt", "Math.max", "Math.min",
        "Integer.bitCount", "Long.bitCount", "System.arraycopy");
    private static final Set<String> EXCEPTIONS = Set.of("IllegalStateException", "IllegalArgumentException",
        "IndexOutOfBoundsException", "NoSuchElementException");
    private static final Set<String> STATIC_TYPES = Set.of("int", "long", "boolean", "char", "String", "int[]", "long[]",
        "char[]", "byte[]");
    private static final Set<String> CAST_TYPES = Set.of("byte", "char", "int", "long");
    private static final int MOST_FIELDS = 20;
    private static final int MOST_DEEP = 8;

    private final Trees trees;
    private final Map<String, TreeSet<String>> calls = new TreeMap<>();
    private final Map<String, Integer> fields = new TreeMap<>();
    private String method = "";

    private LanguageTreeTest(Trees trees) {
        this.trees = trees;
    }

    public static void main(String[] args) throws IOException {
        JavaCompiler compiler = ToolProvider.getSystemJavaCompiler();
        try (StandardJavaFileManager files = compiler.getStandardFileManager(null, null, null)) {
            JavacTask task = (JavacTask) compiler.getTask(null, files, null, List.of("--release", "17", "-proc:none"), null,
                files.getJavaFileObjects("src/main/java/FoundThings.java"));
            LanguageTreeTest test = new LanguageTreeTest(Trees.instance(task));
            Iterable<? extends CompilationUnitTree> units = task.parse();
            task.analyze();
            test.scan(units, null);
            test.shape();
        }
        Check.end();
    }

    private static void may(String what, boolean is) {
        Check.due(what, 1, is ? 1 : 0);
    }

    private static boolean isOwn(Element element) {
        Element outer = element;
        while (outer.getEnclosingElement() != null && outer.getEnclosingElement().getKind() != ElementKind.PACKAGE) {
            outer = outer.getEnclosingElement();
        }
        return outer.getSimpleName().contentEquals("FoundThings");
    }

    private static String nameOf(Element element) {
        return element.getEnclosingElement().getSimpleName() + "." + element.getSimpleName();
    }

    @Override
    public Void visitMethod(MethodTree tree, Void none) {
        String outer = method;
        method = nameOf(trees.getElement(getCurrentPath()));
        calls.computeIfAbsent(method, key -> new TreeSet<>());
        super.visitMethod(tree, none);
        method = outer;
        return none;
    }

    @Override
    public Void visitMethodInvocation(MethodInvocationTree tree, Void none) {
        Element called = trees.getElement(getCurrentPath());
        boolean isSuper = tree.getMethodSelect().toString().equals("super");
        if (isOwn(called)) {
            calls.get(method).add(nameOf(called));
        } else {
            may("rule 4, library: " + nameOf(called), isSuper || LIBRARY.contains(nameOf(called)));
        }
        return super.visitMethodInvocation(tree, none);
    }

    @Override
    public Void visitNewClass(NewClassTree tree, Void none) {
        Element made = trees.getElement(getCurrentPath());
        may("rules 2, 4 and 6, new " + tree.getIdentifier(),
            isOwn(made) && tree.getClassBody() == null || EXCEPTIONS.contains(tree.getIdentifier().toString()));
        if (isOwn(made) && !method.isEmpty()) {
            calls.get(method).add(nameOf(made));
        }
        return super.visitNewClass(tree, none);
    }

    @Override
    public Void visitThrow(ThrowTree tree, Void none) {
        may("rule 6, throws what it makes: " + tree, tree.getExpression() instanceof NewClassTree);
        may("rule 6, none in a constructor: " + method, !method.endsWith("<init>"));
        return super.visitThrow(tree, none);
    }

    @Override
    public Void visitNewArray(NewArrayTree tree, Void none) {
        may("rule 3, one dimension: " + tree, tree.getDimensions().size() <= 1);
        return super.visitNewArray(tree, none);
    }

    @Override
    public Void visitTypeCast(TypeCastTree tree, Void none) {
        may("rule 6, casts among numbers alone: " + tree, CAST_TYPES.contains(tree.getType().toString()));
        return super.visitTypeCast(tree, none);
    }

    @Override
    public Void visitVariable(VariableTree tree, Void none) {
        Element element = trees.getElement(getCurrentPath());
        if (element.getKind() == ElementKind.FIELD) {
            if (element.getModifiers().contains(Modifier.STATIC)) {
                may("rule 5, final: " + tree, element.getModifiers().contains(Modifier.FINAL));
                may("rule 5, a type of constants: " + tree, STATIC_TYPES.contains(tree.getType().toString()));
            } else {
                fields.merge(element.getEnclosingElement().getSimpleName().toString(), 1, Integer::sum);
            }
        }
        return super.visitVariable(tree, none);
    }

    @Override
    public Void visitLambdaExpression(LambdaExpressionTree tree, Void none) {
        may("rule 2, no lambda", false);
        return none;
    }

    @Override
    public Void visitMemberReference(MemberReferenceTree tree, Void none) {
        may("rule 2, no method reference", false);
        return none;
    }

    @Override
    public Void visitClass(ClassTree tree, Void none) {
        boolean outer = tree.getSimpleName().contentEquals("FoundThings");
        may("rule 2, static inside: " + tree.getSimpleName(),
            outer || tree.getModifiers().getFlags().contains(Modifier.STATIC));
        may("rule 2, extends nothing: " + tree.getSimpleName(), tree.getExtendsClause() == null);
        return super.visitClass(tree, none);
    }

    private void shape() {
        for (String name : fields.keySet()) {
            may("rule 11, fields of " + name, fields.get(name) <= MOST_FIELDS);
        }
        for (String name : calls.keySet()) {
            boolean recursion = reaches(name).contains(name);
            may("rule 8, recursion by the texts' depth alone: " + name, !recursion || name.startsWith("Reader.read"));
        }
        Map<String, Integer> depths = new HashMap<>();
        for (String name : calls.keySet()) {
            may("rule 11, calls below " + name, depth(name, depths) <= MOST_DEEP);
        }
        may("methods were seen", calls.size() > 100 && calls.get("FoundThings.ask").size() > 1);
    }

    private Set<String> reaches(String name) {
        Set<String> seen = new HashSet<>();
        List<String> next = List.copyOf(calls.get(name));
        while (!next.isEmpty()) {
            Set<String> more = new HashSet<>();
            for (String called : next) {
                if (seen.add(called)) {
                    more.addAll(calls.getOrDefault(called, new TreeSet<>()));
                }
            }
            next = List.copyOf(more);
        }
        return seen;
    }

    /** Methods that call one another count as one, however deep they go. */
    private int depth(String name, Map<String, Integer> depths) {
        if (!depths.containsKey(name)) {
            Set<String> together = new HashSet<>(Set.of(name));
            for (String called : reaches(name)) {
                if (reaches(called).contains(name)) {
                    together.add(called);
                }
            }
            int deepest = 0;
            for (String one : together) {
                for (String called : calls.getOrDefault(one, new TreeSet<>())) {
                    if (!together.contains(called) && calls.containsKey(called)) {
                        deepest = Math.max(deepest, depth(called, depths));
                    }
                }
            }
            depths.put(name, deepest + 1);
        }
        return depths.get(name);
    }
}
