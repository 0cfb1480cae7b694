import java.io.IOException;
import java.lang.reflect.Method;
import java.lang.reflect.Modifier;
import java.nio.file.Files;
import java.nio.file.Path;
import java.util.Arrays;
import java.util.Set;
import java.util.TreeSet;
import java.util.regex.Matcher;
import java.util.regex.Pattern;
import java.util.stream.Collectors;

/** README.md: that its examples answer what they say, and that its list of calls is the class's. */
public final class ReadmeTest {
    private static final Pattern EXAMPLE = Pattern.compile("```java\n(.*?)```", Pattern.DOTALL);
    private static final Pattern ANSWER = Pattern.compile("(keeper\\..*\\));\\s*// answers (-?\\w+).*");
    private static final Pattern REFUSAL = Pattern.compile("(keeper\\..*\\));\\s*// throws (\\w+).*");
    private static final Pattern CALL = Pattern.compile("\\| `(\\w+) (\\w+)\\((.*?)\\)` \\|.*?\\|(.*)\\|");
    private static final Pattern EXCEPTION = Pattern.compile("`(\\w+Exception)`");

    public static void main(String[] args) throws Exception {
        String readme = Files.readString(Path.of("README.md"));
        int examples = 0;
        for (Matcher m = EXAMPLE.matcher(readme); m.find();) {
            examples++;
            runExample("ReadmeExample" + examples, m.group(1));
        }
        Check.same("examples", examples, 2);
        Check.same("the calls in the list", listed(readme).toString(), ofTheClass().toString());
        Check.holds("it says how the tests are run", readme.contains("```sh\n.ci/run\n```"));
        testsAreTold(readme);
        Check.end("ReadmeTest");
    }

    // ---- the examples

    private static String checked(String line) {
        Matcher answer = ANSWER.matcher(line);
        if (answer.find()) {
            return same(answer.group(1), answer.group(2));
        }
        Matcher refusal = REFUSAL.matcher(line);
        if (refusal.find()) {
            String call = refusal.group(1);
            return "Check.refused(\"" + call + "\", " + refusal.group(2) + ".class, () -> " + call + ");";
        }
        Check.holds("'" + line + "' says an answer in the form that is looked at",
            !line.contains("// answers") && !line.contains("// throws"));
        return line;
    }

    private static String same(String call, String due) {
        return "Check.same(\"" + call + "\", String.valueOf(" + call + "), \"" + due + "\");";
    }

    /** Compiled beside Check, which is not public, into the directory that .ci/run throws away. */
    private static void runExample(String name, String code) throws Exception {
        String body = code.lines().map(ReadmeTest::checked).collect(Collectors.joining("\n"));
        Path classes = Path.of(ReadmeTest.class.getProtectionDomain().getCodeSource().getLocation().toURI());
        Path file = classes.resolve(name + ".java");
        Files.writeString(file, "public final class " + name + " { public static void run() {\n" + body + "\n} }\n");
        int failed = new ProcessBuilder("javac", "--release", "17", "-encoding", "UTF-8", "-classpath", classes.toString(),
            "-d", classes.toString(), file.toString()).inheritIO().start().waitFor();
        Check.same("compiling " + name, failed, 0);
        if (failed == 0) {
            Class.forName(name).getMethod("run").invoke(null);
        }
    }

    // ---- the list of calls

    private static Set<String> ofTheClass() {
        Set<String> calls = new TreeSet<>();
        for (Method m : TimeKeeper.class.getDeclaredMethods()) {
            if (Modifier.isPublic(m.getModifiers())) {
                String parameters = Arrays.stream(m.getParameterTypes()).map(Class::getName).collect(Collectors.joining(", "));
                String thrown = Arrays.stream(m.getExceptionTypes()).map(Class::getSimpleName).collect(Collectors.joining(" "));
                calls.add(m.getReturnType() + " " + m.getName() + "(" + parameters + ") " + thrown);
            }
        }
        return calls;
    }

    private static Set<String> listed(String readme) {
        Set<String> calls = new TreeSet<>();
        for (Matcher m = CALL.matcher(readme); m.find();) {
            String parameters = m.group(3).replaceAll(" \\w+(,|$)", "$1");
            String thrown = EXCEPTION.matcher(m.group(4)).results().map(r -> r.group(1)).collect(Collectors.joining(" "));
            calls.add(m.group(1) + " " + m.group(2) + "(" + parameters + ") " + thrown);
        }
        return calls;
    }

    private static void testsAreTold(String readme) throws IOException {
        try (var files = Files.list(Path.of("src/test/java"))) {
            for (String name : files.map(f -> f.getFileName().toString()).sorted().toList()) {
                Check.holds("it names " + name, readme.contains(name + "`"));
            }
        }
    }
}
