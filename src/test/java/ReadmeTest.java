import java.io.File;
import java.lang.reflect.Method;
import java.net.URL;
import java.net.URLClassLoader;
import java.nio.file.Files;
import java.nio.file.Path;
import java.util.List;
import java.util.regex.Matcher;
import java.util.regex.Pattern;
import javax.tools.ToolProvider;

/** The examples of README.md compile, and each call answers what stands behind it. */
public final class ReadmeTest {
    private static final Pattern EXAMPLE = Pattern.compile("(?s)```java\n(.*?)```");
    private static final Pattern CALL = Pattern.compile(
            "(?m)^(lab\\.\\w+\\(.*\\)); +// (?:throws )?(RoundLab\\.NONE|-?\\d+|\\w+Exception)(?=:|$)");
    private static final Pattern ANY_CALL = Pattern.compile("(?m)^lab\\.(?!start\\(\\d\\);$).*");

    private static final String HEAD = """
            public final class Examples {
                interface Call {
                    int answer();
                }
                static final java.util.List<String[]> SEEN = new java.util.ArrayList<>();
                static void is(String call, String due, Call made) {
                    String got;
                    try {
                        got = String.valueOf(made.answer());
                    } catch (RuntimeException e) {
                        got = e.getClass().getSimpleName();
                    }
                    SEEN.add(new String[] {call, due, got});
                }
                static int start(RoundLab lab, int n) {
                    lab.start(n);
                    return 0;
                }
                public static java.util.List<String[]> run() {
            """;

    public static void main(String[] args) throws Exception {
        Matcher example = EXAMPLE.matcher(Files.readString(Path.of("README.md")));
        StringBuilder code = new StringBuilder(HEAD);
        int calls = 0;
        while (example.find()) {
            calls += ANY_CALL.matcher(example.group(1)).results().count();
            code.append("{\n").append(withChecks(example.group(1))).append("}\n");
        }
        List<String[]> seen = answersOf(code.append("return SEEN;\n}\n}\n").toString());
        for (String[] one : seen) {
            Checks.compare("README.md: " + one[0], one[1], one[2]);
        }
        Checks.compare("calls with an answer", String.valueOf(calls), String.valueOf(seen.size()));
        Checks.finish();
    }

    private static String withChecks(String example) {
        return CALL.matcher(example).replaceAll(found -> {
            String call = found.group(1);
            String due = found.group(2).equals("RoundLab.NONE") ? "-1" : found.group(2);
            String made = call.replaceFirst("^lab\\.start\\(", "start(lab, ");
            return Matcher.quoteReplacement("is(\"" + call + "\", \"" + due + "\", () -> " + made + "); //");
        });
    }

    private static List<String[]> answersOf(String code) throws Exception {
        Path room = Files.createTempDirectory("examples");
        Path source = room.resolve("Examples.java");
        try {
            Files.writeString(source, code);
            int failed = ToolProvider.getSystemJavaCompiler().run(null, null, null, "-cp",
                    System.getProperty("java.class.path"), "-d", room.toString(), source.toString());
            Checks.compare("the examples", "compile", failed == 0 ? "compile" : "do not compile");
            return failed == 0 ? answersOfClass(room) : List.of();
        } finally {
            for (File file : room.toFile().listFiles()) {
                Files.delete(file.toPath());
            }
            Files.delete(room);
        }
    }

    @SuppressWarnings("unchecked")
    private static List<String[]> answersOfClass(Path room) throws Exception {
        try (URLClassLoader loader = new URLClassLoader(new URL[] {room.toUri().toURL()})) {
            Method run = loader.loadClass("Examples").getMethod("run");
            return (List<String[]>) run.invoke(null);
        }
    }
}
