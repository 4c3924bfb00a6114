import java.lang.reflect.Constructor;
import java.lang.reflect.Field;
import java.lang.reflect.Method;
import java.lang.reflect.Modifier;
import java.nio.file.Files;
import java.nio.file.Path;
import java.util.ArrayList;
import java.util.List;
import java.util.Set;
import java.util.TreeSet;

/** The rules of LANGUAGE.md that can be looked at from outside, and the document's face. Runs at the project's root. */
public final class LanguageTest {
    private static final Path SOURCE = Path.of("src/main/java/CaretBench.java");
    private static final Set<String> FACE = new TreeSet<>(List.of(
        "int way(int)", "int put(int,int,int,int)", "int clear()", "int count(int)", "int sign(int)", "int level(int)",
        "int cluster(int,int)", "int seen(int)", "int caret(int)", "boolean go(int,int)", "boolean on(boolean)",
        "boolean step(boolean)", "boolean word(boolean)", "int pick(int)", "int select(int,int)", "int piece(int,int)",
        "int back()", "int ahead()", "boolean type(int)", "int cut(int,int)", "int undo()"));
    private static final List<String> NOT_ALLOWED = List.of(
        "throw", "try", "catch", "synchronized", "assert", "package", "float", "double", "->", "::", "Exact(", "instanceof",
        "random", "System.currentTimeMillis", "System.nanoTime", "protected");
    private static final int MOST_CLASSES = 12;
    private static final int MOST_FIELDS = 20;
    private static final int MOST_PARAMETERS = 7;
    private static final int MOST_LINES = 60;

    private static int wrong = 0;

    public static void main(String[] args) throws Exception {
        lookAtFace();
        List<Class<?>> classes = new ArrayList<>(List.of(CaretBench.class.getDeclaredClasses()));
        check(classes.size() + 1 <= MOST_CLASSES, "too many classes");
        for (Class<?> inside : classes) {
            check(Modifier.isStatic(inside.getModifiers()), inside + " is not static");
            check(!Modifier.isPublic(inside.getModifiers()), inside + " is public");
        }
        classes.add(CaretBench.class);
        for (Class<?> each : classes) {
            lookAtMembers(each);
        }
        lookAtSource(Files.readAllLines(SOURCE));
        System.out.println(wrong == 0 ? "the rules are kept" : wrong + " rules are broken");
        if (wrong != 0) {
            System.exit(1);
        }
    }

    private static void check(boolean kept, String otherwise) {
        if (!kept) {
            wrong++;
            System.out.println(otherwise);
        }
    }

    private static void lookAtFace() throws Exception {
        int modifiers = CaretBench.class.getModifiers();
        check(Modifier.isPublic(modifiers) && Modifier.isFinal(modifiers), "the class is not public and final");
        Set<String> face = new TreeSet<>();
        for (Method method : CaretBench.class.getDeclaredMethods()) {
            if (Modifier.isPublic(method.getModifiers())) {
                List<String> types = new ArrayList<>();
                for (Class<?> type : method.getParameterTypes()) {
                    types.add(type.getName());
                }
                face.add(method.getReturnType() + " " + method.getName() + "(" + String.join(",", types) + ")");
            } else {
                check(Modifier.isPrivate(method.getModifiers()), method + " is not private");
            }
        }
        check(face.equals(FACE), "the face is " + face + ", due is " + FACE);
        Constructor<?>[] constructors = CaretBench.class.getDeclaredConstructors();
        check(constructors.length == 1 && constructors[0].getParameterCount() == 0
            && Modifier.isPublic(constructors[0].getModifiers()), "the constructor is not as due");
        for (Field field : CaretBench.class.getDeclaredFields()) {
            boolean isPrivate = Modifier.isPrivate(field.getModifiers());
            check(field.getName().equals("NONE") != isPrivate, field + " is not private");
        }
        check(CaretBench.class.getField("NONE").getInt(null) == -1, "NONE is not -1");
    }

    private static void lookAtMembers(Class<?> each) {
        int fields = 0;
        for (Field field : each.getDeclaredFields()) {
            boolean isStatic = Modifier.isStatic(field.getModifiers());
            check(!isStatic || Modifier.isFinal(field.getModifiers()), field + " is static and not final");
            fields += isStatic ? 0 : 1;
        }
        check(fields <= MOST_FIELDS, each + " has too many fields");
        for (Method method : each.getDeclaredMethods()) {
            check(method.getParameterCount() <= MOST_PARAMETERS, method + " takes too many parameters");
            boolean isFace = each == CaretBench.class && Modifier.isPublic(method.getModifiers());
            for (String signature : FACE) {
                check(isFace || !signature.contains(" " + method.getName() + "("), method + " bears a public one's name");
            }
        }
    }

    private static void lookAtSource(List<String> lines) {
        int began = 0;
        for (int i = 0; i < lines.size(); i++) {
            String line = lines.get(i).strip();
            boolean comment = line.startsWith("/*") || line.startsWith("*") || line.startsWith("//");
            if (comment) {
                continue;
            }
            for (String word : NOT_ALLOWED) {
                boolean isName = word.matches("[A-Za-z.]+");
                boolean found = isName ? line.matches(".*\\b" + word.replace(".", "\\.") + "\\b.*") : line.contains(word);
                check(!found, "line " + (i + 1) + " has " + word);
            }
            if (line.startsWith("import ")) {
                check(line.equals("import java.util.Arrays;"), "line " + (i + 1) + " imports what is not needed");
            }
            if (line.endsWith(") {") && !line.matches("(if|for|while|switch|}|else)\\b.*") && !line.startsWith("}")) {
                began = i;
            }
            if (line.equals("}")) {
                check(began == 0 || i - began <= MOST_LINES || lines.get(i).startsWith("}"), "line " + (i + 1) + " ends a long method");
            }
        }
    }
}
