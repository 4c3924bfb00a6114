import com.sun.source.tree.CompilationUnitTree;
import com.sun.source.tree.MethodInvocationTree;
import com.sun.source.tree.MethodTree;
import com.sun.source.tree.NewArrayTree;
import com.sun.source.tree.NewClassTree;
import com.sun.source.util.JavacTask;
import com.sun.source.util.TreePath;
import com.sun.source.util.TreePathScanner;
import com.sun.source.util.Trees;
import java.lang.reflect.Constructor;
import java.lang.reflect.Field;
import java.lang.reflect.Method;
import java.lang.reflect.Modifier;
import java.nio.file.Files;
import java.nio.file.Path;
import java.util.ArrayList;
import java.util.List;
import java.util.Map;
import java.util.Set;
import java.util.TreeMap;
import java.util.TreeSet;
import javax.lang.model.element.Element;
import javax.lang.model.element.ElementKind;
import javax.tools.JavaCompiler;
import javax.tools.StandardJavaFileManager;
import javax.tools.ToolProvider;

/** The rules of LANGUAGE.md that can be looked at from outside, and the document's face. Runs at the project's root. */
public final class LanguageTest {
    private static final Path SOURCE = Path.of("src/main/java/CaretBench.java");
    private static final Set<String> FACE = new TreeSet<>(List.of(
        "int way(int)", "int put(int,int,int,int)", "int clear()", "int count(int)", "int sign(int)", "int level(int)",
        "int cluster(int,int)", "int seen(int)", "int caret(int)", "boolean go(int,int)", "boolean on(boolean)",
        "boolean step(boolean)", "boolean word(boolean)", "int pick(int)", "int select(int,int)", "int piece(int,int)",
        "int back()", "int ahead()", "boolean type(int)", "int cut(int,int)", "int undo()"));
    private static final List<String> NOT_ALLOWED = List.of(
        "throw", "try", "catch", "synchronized", "assert", "package", "float", "double", "->", "::", "Exact(", "instanceof",
        "random", "System.currentTimeMillis", "System.nanoTime", "protected");
    private static final int MOST_CLASSES = 12;
    private static final int MOST_FIELDS = 20;
    private static final int MOST_PARAMETERS = 7;
    private static final int MOST_LINES = 60;
    private static final int MOST_DEEP = 8;
    private static final Set<String> LIBRARY = Set.of("java.util.Arrays.fill", "java.lang.Math.min", "java.lang.Math.max");

    private static int wrong = 0;

    public static void main(String[] args) throws Exception {
        lookAtFace();
        List<Class<?>> classes = new ArrayList<>(List.of(CaretBench.class.getDeclaredClasses()));
        check(classes.size() + 1 <= MOST_CLASSES, "too many classes");
        for (Class<?> inside : classes) {
            check(Modifier.isStatic(inside.getModifiers()), inside + " is not static");
            check(!Modifier.isPublic(inside.getModifiers()), inside + " is public");
        }
        classes.add(CaretBench.class);
        for (Class<?> each : classes) {
            lookAtMembers(each);
        }
        lookAtSource(Files.readAllLines(SOURCE));
        lookAtCalls();
        System.out.println(wrong == 0 ? "the rules are kept" : wrong + " rules are broken");
        if (wrong != 0) {
            System.exit(1);
        }
    }

    private static void check(boolean kept, String otherwise) {
        if (!kept) {
            wrong++;
            System.out.println(otherwise);
        }
    }

    private static void lookAtFace() throws Exception {
        int modifiers = CaretBench.class.getModifiers();
        check(Modifier.isPublic(modifiers) && Modifier.isFinal(modifiers), "the class is not public and final");
        Set<String> face = new TreeSet<>();
        for (Method method : CaretBench.class.getDeclaredMethods()) {
            if (Modifier.isPublic(method.getModifiers())) {
                List<String> types = new ArrayList<>();
                for (Class<?> type : method.getParameterTypes()) {
                    types.add(type.getName());
                }
                face.add(method.getReturnType() + " " + method.getName() + "(" + String.join(",", types) + ")");
            } else {
                check(Modifier.isPrivate(method.getModifiers()), method + " is not private");
            }
        }
        check(face.equals(FACE), "the face is " + face + ", due is " + FACE);
        Constructor<?>[] constructors = CaretBench.class.getDeclaredConstructors();
        check(constructors.length == 1 && constructors[0].getParameterCount() == 0
            && Modifier.isPublic(constructors[0].getModifiers()), "the constructor is not as due");
        for (Field field : CaretBench.class.getDeclaredFields()) {
            boolean isPrivate = Modifier.isPrivate(field.getModifiers());
            check(field.getName().equals("NONE") != isPrivate, field + " is not private");
        }
        check(CaretBench.class.getField("NONE").getInt(null) == -1, "NONE is not -1");
    }

    private static void lookAtMembers(Class<?> each) {
        int fields = 0;
        for (Field field : each.getDeclaredFields()) {
            boolean isStatic = Modifier.isStatic(field.getModifiers());
            check(!isStatic || Modifier.isFinal(field.getModifiers()), field + " is static and not final");
            fields += isStatic ? 0 : 1;
        }
        check(fields <= MOST_FIELDS, each + " has too many fields");
        for (Method method : each.getDeclaredMethods()) {
            check(method.getParameterCount() <= MOST_PARAMETERS, method + " takes too many parameters");
            boolean isFace = each == CaretBench.class && Modifier.isPublic(method.getModifiers());
            for (String signature : FACE) {
                check(isFace || !signature.contains(" " + method.getName() + "("), method + " bears a public one's name");
            }
        }
    }

    private static void lookAtSource(List<String> lines) {
        int began = 0;
        for (int i = 0; i < lines.size(); i++) {
            String line = lines.get(i).strip();
            boolean comment = line.startsWith("/*") || line.startsWith("*") || line.startsWith("//");
            if (comment) {
                continue;
            }
            for (String word : NOT_ALLOWED) {
                boolean isName = word.matches("[A-Za-z.]+");
                boolean found = isName ? line.matches(".*\\b" + word.replace(".", "\\.") + "\\b.*") : line.contains(word);
                check(!found, "line " + (i + 1) + " has " + word);
            }
            if (line.startsWith("import ")) {
                check(line.equals("import java.util.Arrays;"), "line " + (i + 1) + " imports what is not needed");
            }
            if (line.endsWith(") {") && !line.matches("(if|for|while|switch|}|else)\\b.*") && !line.startsWith("}")) {
                began = i;
            }
            if (line.equals("}")) {
                check(began == 0 || i - began <= MOST_LINES || lines.get(i).startsWith("}"), "line " + (i + 1) + " ends a long method");
            }
        }
    }

    /* The public call itself counts, so that the rule holds whichever way its depth is told. */
    private static void lookAtCalls() throws Exception {
        Calls calls = new Calls();
        calls.read();
        check(calls.called.containsKey("CaretBench.back"), "the calls of back() are not seen");
        for (String method : calls.called.keySet()) {
            List<String> chain = calls.longestFrom(method, new ArrayList<>());
            check(chain.size() <= MOST_DEEP, "calls go " + chain.size() + " deep: " + String.join(" > ", chain));
        }
    }

    /** Which method of the source calls which, as the compiler understands it. */
    private static final class Calls extends TreePathScanner<Void, String> {
        private final Map<String, Set<String>> called = new TreeMap<>();
        private Trees trees;

        void read() throws Exception {
            JavaCompiler compiler = ToolProvider.getSystemJavaCompiler();
            try (StandardJavaFileManager files = compiler.getStandardFileManager(null, null, null)) {
                JavacTask task = (JavacTask) compiler.getTask(null, files, null, List.of("-proc:none"), null,
                    files.getJavaFileObjects(SOURCE));
                trees = Trees.instance(task);
                Iterable<? extends CompilationUnitTree> units = task.parse();
                task.analyze();
                for (CompilationUnitTree unit : units) {
                    scan(new TreePath(unit), "");
                }
            }
        }

        List<String> longestFrom(String method, List<String> open) {
            check(!open.contains(method), method + " calls itself by way of " + open);
            List<String> longest = new ArrayList<>();
            if (!open.contains(method)) {
                List<String> within = new ArrayList<>(open);
                within.add(method);
                for (String next : called.getOrDefault(method, Set.of())) {
                    List<String> chain = longestFrom(next, within);
                    longest = chain.size() > longest.size() ? chain : longest;
                }
            }
            longest.add(0, method);
            return longest;
        }

        @Override
        public Void visitMethod(MethodTree tree, String ignored) {
            String name = nameOf(trees.getElement(getCurrentPath()));
            called.putIfAbsent(name, new TreeSet<>());
            return super.visitMethod(tree, name);
        }

        @Override
        public Void visitMethodInvocation(MethodInvocationTree tree, String caller) {
            note(caller);
            return super.visitMethodInvocation(tree, caller);
        }

        @Override
        public Void visitNewClass(NewClassTree tree, String caller) {
            check(caller.endsWith("<init>"), caller + " makes an object");
            note(caller);
            return super.visitNewClass(tree, caller);
        }

        @Override
        public Void visitNewArray(NewArrayTree tree, String caller) {
            check(caller.endsWith("<init>"), caller + " makes an array");
            return super.visitNewArray(tree, caller);
        }

        private void note(String caller) {
            String name = nameOf(trees.getElement(getCurrentPath()));
            if (name.startsWith("CaretBench")) {
                called.get(caller).add(name);
            } else if (!name.equals("java.lang.Object.<init>")) {
                check(LIBRARY.contains(name), caller + " uses " + name);
            }
        }

        private static String nameOf(Element method) {
            boolean makes = method.getKind() == ElementKind.CONSTRUCTOR;
            return method.getEnclosingElement() + "." + (makes ? "<init>" : method.getSimpleName());
        }
    }
}
