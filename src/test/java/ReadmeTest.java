import java.io.File;
import java.lang.reflect.Method;
import java.lang.reflect.Modifier;
import java.nio.file.Files;
import java.nio.file.Path;
import java.util.List;
import java.util.regex.Matcher;
import java.util.regex.Pattern;

/** README.md: its example answers what it says, and every call and test is named. Runs at the project's root. */
public final class ReadmeTest {
    private static final Pattern EXAMPLE = Pattern.compile("bench\\.(.*);\\s+// (\\S+): .*");

    private static int wrong = 0;

    public static void main(String[] args) throws Exception {
        List<String> lines = Files.readAllLines(Path.of("README.md"));
        String all = String.join("\n", lines);
        lookAtNames(all);
        runExample(lines);
        System.out.println(wrong == 0 ? "the README is right" : wrong + " things in the README are wrong");
        if (wrong != 0) {
            System.exit(1);
        }
    }

    private static void check(boolean right, String otherwise) {
        if (!right) {
            wrong++;
            System.out.println(otherwise);
        }
    }

    private static void lookAtNames(String all) {
        for (Method method : CaretBench.class.getDeclaredMethods()) {
            if (Modifier.isPublic(method.getModifiers())) {
                check(all.contains("`" + method.getName() + "("), "README.md does not name " + method);
            }
        }
        File[] tests = new File("src/test/java").listFiles((folder, name) -> name.endsWith(".java"));
        check(tests != null && tests.length > 0, "no tests are found");
        if (tests != null) {
            for (File test : tests) {
                check(all.contains("`" + test.getName().replace(".java", "") + "`"), "README.md does not name " + test);
            }
        }
        check(all.contains("    .ci/run\n"), "README.md does not say how to run the tests");
    }

    private static void runExample(List<String> lines) throws Exception {
        CaretBench bench = new CaretBench();
        int asked = 0;
        for (String line : lines) {
            Matcher matcher = EXAMPLE.matcher(line);
            if (matcher.matches()) {
                String got = String.valueOf(answer(bench, matcher.group(1)));
                check(got.equals(matcher.group(2)), "README.md says: " + line + " but the answer is " + got);
                asked++;
            }
        }
        check(asked == 8, "the example has " + asked + " answers, not 8");
    }

    private static Object answer(CaretBench bench, String call) throws Exception {
        String name = call.substring(0, call.indexOf('('));
        String inside = call.substring(call.indexOf('(') + 1, call.lastIndexOf(')'));
        String[] texts = inside.isEmpty() ? new String[0] : inside.split(", ");
        for (Method method : CaretBench.class.getDeclaredMethods()) {
            if (method.getName().equals(name) && method.getParameterCount() == texts.length) {
                Object[] values = new Object[texts.length];
                for (int i = 0; i < texts.length; i++) {
                    values[i] = value(texts[i]);
                }
                return method.invoke(bench, values);
            }
        }
        return "no such call";
    }

    private static Object value(String text) {
        if (text.equals("true") || text.equals("false")) {
            return text.equals("true");
        }
        if (text.startsWith("'")) {
            return (int) text.charAt(1);
        }
        return Integer.decode(text);
    }
}
