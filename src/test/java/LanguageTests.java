import com.sun.source.tree.*;
import com.sun.source.util.*;
import java.lang.reflect.*;
import java.nio.file.*;
import java.util.*;
import javax.lang.model.element.*;
import javax.lang.model.element.Modifier;
import javax.tools.*;

/** What of LANGUAGE.md can be told from the source: the face, the library, forms, sizes, depth of calls. */
public final class LanguageTests extends TreePathScanner<Void, Void> {
    private static final Set<String> LIBRARY = Set.of("java.lang.Math.min", "java.lang.Math.max",
        "java.lang.Integer.bitCount", "java.lang.Long.bitCount", "java.util.Arrays.fill");
    private static final Set<String> ERRORS = Set.of("IllegalArgumentException", "IllegalStateException",
        "IndexOutOfBoundsException");
    private static final Set<Tree.Kind> FORBIDDEN = EnumSet.of(Tree.Kind.LAMBDA_EXPRESSION,
        Tree.Kind.MEMBER_REFERENCE, Tree.Kind.TRY, Tree.Kind.ASSERT, Tree.Kind.SYNCHRONIZED, Tree.Kind.DIVIDE,
        Tree.Kind.REMAINDER, Tree.Kind.WHILE_LOOP, Tree.Kind.DO_WHILE_LOOP, Tree.Kind.STRING_LITERAL);
    private static final String[] FACE = {"tell(int,int,int)int", "untell(int,int,int)int", "rule(int,int)int",
        "joining(int,int,int)int", "remove(int)int", "settle()int", "append(int)int", "clearBuffer()int",
        "firstError()int", "read()int", "undo()int", "told(int)int", "partOf(int,int)int", "found(int,int)int",
        "count(int)int", "follows(int,int,int)int", "instances(int,int,int)int", "behind(int)int",
        "without(int,int)int", "spare(int)int", "richest(int)int", "byRules()double", "digest()long"};

    private static int wrong;

    private final Trees trees;
    private final CompilationUnitTree unit;
    private final Map<String, Set<String>> calls = new TreeMap<>();
    private String method = "";
    private String declared = "";

    private LanguageTests(Trees trees, CompilationUnitTree unit) {
        this.trees = trees;
        this.unit = unit;
    }

    public static void main(String[] args) throws Exception {
        Path source = Path.of(args.length > 0 ? args[0] : "src/main/java/FollowedLaws.java");
        JavaCompiler compiler = ToolProvider.getSystemJavaCompiler();
        try (StandardJavaFileManager files = compiler.getStandardFileManager(null, null, null)) {
            JavacTask task = (JavacTask) compiler.getTask(null, files, null, null, null,
                    files.getJavaFileObjects(source));
            CompilationUnitTree unit = task.parse().iterator().next();
            task.analyze();
            LanguageTests tests = new LanguageTests(Trees.instance(task), unit);
            tests.scan(unit, null);
            tests.depths();
        }
        face();
        faceOfDocument(Files.readString(source).replaceAll("\\s+", " "));
        need(Files.readString(source).chars().allMatch(sign -> sign < 128), "signs are ASCII");
        System.out.println("LanguageTests: " + (wrong == 0 ? "all rules that can be told hold" : wrong + " broken"));
        if (wrong != 0) {
            System.exit(1);
        }
    }

    private static void need(boolean fits, String what) {
        if (!fits) {
            wrong++;
            System.out.println("language: not so: " + what);
        }
    }

    private static boolean hidden(int modifiers) {
        return java.lang.reflect.Modifier.isPrivate(modifiers);
    }

    private static void face() {
        Class<?> face = FollowedLaws.class;
        need(java.lang.reflect.Modifier.isPublic(face.getModifiers())
                && java.lang.reflect.Modifier.isFinal(face.getModifiers()), "the class is public and final");
        need(face.getDeclaredConstructors().length == 1 && face.getConstructors().length == 1, "one constructor");
        Set<String> visible = new TreeSet<>();
        Set<String> names = new TreeSet<>();
        for (Method m : face.getDeclaredMethods()) {
            if (!hidden(m.getModifiers())) {
                StringJoiner types = new StringJoiner(",", m.getName() + "(", ")");
                for (Class<?> type : m.getParameterTypes()) {
                    types.add(type.getName());
                }
                visible.add(types + m.getReturnType().getName());
                names.add(m.getName());
            }
        }
        need(visible.equals(new TreeSet<>(List.of(FACE))), "the face: " + visible);
        for (Field f : face.getDeclaredFields()) {
            need(hidden(f.getModifiers()) || f.getName().equals("NONE"), f + " is hidden");
        }
        List<Class<?>> all = new ArrayList<>(List.of(face.getDeclaredClasses()));
        need(all.size() < 12, "some twelve classes");
        all.add(face);
        for (Class<?> one : all) {
            int fields = 0;
            for (Field f : one.getDeclaredFields()) {
                boolean fixed = java.lang.reflect.Modifier.isStatic(f.getModifiers());
                need(!fixed || f.getType() == int.class || f.getType() == long.class, f + " is a plain constant");
                fields += fixed ? 0 : 1;
            }
            need(fields <= 20, one + " has some twenty fields");
            for (Method m : one.getDeclaredMethods()) {
                need(one == face && !hidden(m.getModifiers()) || !names.contains(m.getName()), m + " has its own name");
            }
        }
    }

    /** Each line of the document's face stands in the source, with the exceptions that it names. */
    private static void faceOfDocument(String source) throws java.io.IOException {
        String document = Files.readString(Path.of("../shared/DOC.md"));
        int lines = 0;
        for (String line : document.replaceFirst("(?s).*?```java\n", "").replaceFirst("(?s)\n\\}\n```.*", "").split("\n")) {
            String want = line.trim().replaceFirst("\\);$", ") {").replaceFirst("Exception;$", "Exception {");
            need(source.contains(want), "the source has: " + want);
            lines++;
        }
        need(lines == FACE.length + 3, "the document's face has " + lines + " lines");
    }

    // ---- the tree

    private long line(Tree tree, boolean end) {
        SourcePositions places = trees.getSourcePositions();
        return unit.getLineMap().getLineNumber(end ? places.getEndPosition(unit, tree)
                : places.getStartPosition(unit, tree));
    }

    @Override
    public Void scan(Tree tree, Void none) {
        if (tree != null && FORBIDDEN.contains(tree.getKind()) && !fitsAfterAll(tree)) {
            need(false, tree.getKind() + " in line " + line(tree, false) + ": " + tree);
        }
        return super.scan(tree, none);
    }

    private boolean fitsAfterAll(Tree tree) {
        Tree parent = getCurrentPath() == null ? null : getCurrentPath().getLeaf();
        if (tree.getKind() == Tree.Kind.STRING_LITERAL) {
            return parent instanceof NewClassTree;
        }
        return tree.getKind() == Tree.Kind.DIVIDE && method.contains("byRules");
    }

    @Override
    public Void visitImport(ImportTree tree, Void none) {
        need(tree.getQualifiedIdentifier().toString().equals("java.util.Arrays"), "import of " + tree);
        return null;
    }

    @Override
    public Void visitClass(ClassTree tree, Void none) {
        String name = tree.getSimpleName().toString();
        if (!name.equals("FollowedLaws")) {
            Set<Modifier> modifiers = tree.getModifiers().getFlags();
            need(modifiers.contains(Modifier.STATIC) && modifiers.contains(Modifier.PRIVATE), name + " is static");
        }
        return super.visitClass(tree, none);
    }

    @Override
    public Void visitVariable(VariableTree tree, Void none) {
        Element element = trees.getElement(getCurrentPath());
        if (element != null && element.getKind() == ElementKind.FIELD) {
            Set<Modifier> modifiers = tree.getModifiers().getFlags();
            need(!modifiers.contains(Modifier.STATIC) || modifiers.contains(Modifier.FINAL), tree + " is final");
        }
        return super.visitVariable(tree, none);
    }

    @Override
    public Void visitBlock(BlockTree tree, Void none) {
        need(!tree.isStatic(), "no static initialiser");
        return super.visitBlock(tree, none);
    }

    @Override
    public Void visitMethod(MethodTree tree, Void none) {
        Element element = trees.getElement(getCurrentPath());
        method = element.getEnclosingElement() + "." + element;
        declared = tree.getThrows().toString();
        calls.putIfAbsent(method, new TreeSet<>());
        need(tree.getParameters().size() <= 7, method + " takes at most seven");
        need(line(tree, true) - line(tree, false) < 60, method + " is short");
        super.visitMethod(tree, none);
        method = "";
        return null;
    }

    @Override
    public Void visitThrow(ThrowTree tree, Void none) {
        need(tree.getExpression() instanceof NewClassTree, "throw new: " + tree);
        String type = ((NewClassTree) tree.getExpression()).getIdentifier().toString();
        need(ERRORS.contains(type) && declared.contains(type), method + " names " + type);
        return super.visitThrow(tree, none);
    }

    @Override
    public Void visitNewClass(NewClassTree tree, Void none) {
        Tree parent = getCurrentPath().getParentPath().getLeaf();
        need(parent instanceof ThrowTree || method.contains("<init>") || method.isEmpty()
                || method.equals("FollowedLaws.FollowedLaws()"), "rows are made in constructors: " + method);
        return super.visitNewClass(tree, none);
    }

    @Override
    public Void visitNewArray(NewArrayTree tree, Void none) {
        need(method.isEmpty() || method.equals("FollowedLaws.FollowedLaws()"), "rows are made in constructors: " + method);
        return super.visitNewArray(tree, none);
    }

    @Override
    public Void visitMethodInvocation(MethodInvocationTree tree, Void none) {
        Element element = trees.getElement(getCurrentPath());
        String owner = element.getEnclosingElement().toString();
        if (owner.startsWith("FollowedLaws")) {
            calls.computeIfAbsent(method, m -> new TreeSet<>()).add(owner + "." + element);
        } else if (!element.getSimpleName().contentEquals("<init>")) {
            need(LIBRARY.contains(owner + "." + element.getSimpleName()), "library: " + owner + "." + element);
            calls.computeIfAbsent(method, m -> new TreeSet<>()).add(owner + "." + element);
        }
        return super.visitMethodInvocation(tree, none);
    }

    private void depths() {
        int most = 0;
        for (String name : calls.keySet()) {
            most = Math.max(most, depth(name, 1));
        }
        need(most <= 8, "calls go at most eight deep, not " + most);
        System.out.println("LanguageTests: calls go " + most + " deep");
    }

    private int depth(String name, int level) {
        if (level > 20) {
            return level;
        }
        int most = level;
        for (String called : calls.getOrDefault(name, Set.of())) {
            most = Math.max(most, depth(called, level + 1));
        }
        return most;
    }
}
