import java.io.IOException;
import java.lang.reflect.Constructor;
import java.lang.reflect.Executable;
import java.lang.reflect.Field;
import java.lang.reflect.Method;
import java.lang.reflect.Modifier;
import java.nio.file.Files;
import java.nio.file.Path;
import java.util.ArrayList;
import java.util.Arrays;
import java.util.HashSet;
import java.util.List;
import java.util.Map;
import java.util.Set;
import java.util.TreeMap;
import java.util.TreeSet;
import java.util.regex.Matcher;
import java.util.regex.Pattern;

/** Those rules of LANGUAGE.md that can be seen in the text of the program, or in its classes. */
public final class LanguageTest {
    private static final Path PROGRAM = Path.of("src/main/java/RoundLab.java");
    private static final int MOST_PARAMETERS = 7;
    private static final int MOST_LINES = 60;
    private static final int MOST_CLASSES = 12;
    private static final int MOST_FIELDS = 20;
    private static final int MOST_OPEN_CALLS = 8;

    private static final String NO_STATEMENT = "(?!(?:if|for|while|switch|return|throw|new)\\b)";
    private static final Pattern HEAD = Pattern.compile(
            " {4}(?: {4})?" + NO_STATEMENT + "(?:[\\w\\[\\]]+ )*(\\w+)\\([^;=]*[{)]");
    private static final Pattern CALL = Pattern.compile("\\b" + NO_STATEMENT + "(\\w+)\\(");

    private static final Set<Class<?>> CONSTANTS = Set.of(int.class, long.class, boolean.class,
            char.class, String.class, int[].class, long[].class, char[].class, byte[].class);

    /** Some of it the rules would allow; the program has no need of it. */
    private static final String[] NOT_IN_IT = {
        "->", "::", "\\btry\\b", "\\bcatch\\b", "\\bfinally\\b", "\\bsynchronized\\b", "\\bassert\\b",
        "\\bThread\\b", "\\bRandom\\b", "\\bfloat\\b", "\\bdouble\\b", "\\bnanoTime\\b",
        "\\bcurrentTimeMillis\\b", "\\bgetenv\\b", "\\bgetProperty\\b", "\\bequals\\b", "\\bhashCode\\b",
        "\\btoString\\b", "Exact\\(", "\\bpackage\\b", "\\bgetMessage\\b", "\\bSystem\\.(?!arraycopy)",
        "\\bArrays\\.(?!fill|copyOf)", "\\bprotected\\b", "static \\{", "\\bvar\\b",
    };

    public static void main(String[] args) throws IOException {
        List<String> lines = Files.readAllLines(PROGRAM);
        text(lines);
        methods(lines);
        classes();
        Checks.finish();
    }

    private static void isFine(String what, boolean fine) {
        Checks.compare(what, "fine", fine ? "fine" : "not fine");
    }

    private static void text(List<String> lines) {
        String code = withoutComments(lines);
        for (String pattern : NOT_IN_IT) {
            Matcher matcher = Pattern.compile(pattern).matcher(code);
            isFine("rules 2, 3, 4, 5, 6, 13: no " + pattern, !matcher.find());
        }
        for (String line : lines) {
            if (line.startsWith("import ")) {
                isFine("rule 4: " + line, line.equals("import java.util.Arrays;")
                        || line.equals("import java.util.NoSuchElementException;"));
            }
        }
        Matcher thrown = Pattern.compile("throw ([^;]*);").matcher(code);
        while (thrown.find()) {
            isFine("rule 6: throw " + thrown.group(1), thrown.group(1).matches(
                    "new (IllegalState|IllegalArgument|NoSuchElement)Exception\\((\"[^\"]*\")?\\)"));
        }
    }

    private static String withoutComments(List<String> lines) {
        return String.join("\n", lines).replaceAll("(?s)/\\*.*?\\*/", "").replaceAll("//[^\n]*", "");
    }

    /** A method's lines: from its head, one or two steps in, to the brace that stands as far in. */
    private static void methods(List<String> lines) {
        Map<String, Set<String>> called = new TreeMap<>();
        for (int i = 0; i < lines.size(); i++) {
            Matcher head = HEAD.matcher(lines.get(i));
            if (head.matches()) {
                String end = lines.get(i).replaceAll("\\S.*", "") + "}";
                int length = lines.subList(i, lines.size()).indexOf(end) + 1;
                isFine("rule 11: " + length + " lines of " + lines.get(i).trim(),
                        length > 0 && length <= MOST_LINES);
                called.computeIfAbsent(head.group(1), name -> new TreeSet<>())
                        .addAll(calledIn(lines.subList(i + 1, i + Math.max(1, length))));
            }
        }
        for (String name : called.keySet()) {
            int open = openCalls(name, called, new ArrayList<>());
            isFine("rule 11: " + open + " calls open at once from " + name, open <= MOST_OPEN_CALLS);
        }
    }

    private static Set<String> calledIn(List<String> body) {
        Set<String> names = new TreeSet<>();
        Matcher call = CALL.matcher(withoutComments(body));
        while (call.find()) {
            names.add(call.group(1));
        }
        return names;
    }

    /** How many calls stand open at once at most; a method that calls itself counts once. */
    private static int openCalls(String name, Map<String, Set<String>> called, List<String> open) {
        int most = 0;
        open.add(name);
        for (String next : called.getOrDefault(name, Set.of())) {
            boolean again = open.contains(next);
            isFine("rule 8: " + name + " calls " + next, !again || next.equals(name));
            most = Math.max(most, again ? 0 : openCalls(next, called, open));
        }
        open.remove(name);
        return 1 + most;
    }

    private static void classes() {
        List<Class<?>> all = new ArrayList<>(Arrays.asList(RoundLab.class.getDeclaredClasses()));
        Set<String> face = new HashSet<>();
        for (Method method : RoundLab.class.getDeclaredMethods()) {
            if (Modifier.isPublic(method.getModifiers())) {
                face.add(method.getName());
            }
        }
        for (Class<?> one : all) {
            int modifiers = one.getModifiers();
            isFine("rule 1: " + one, Modifier.isStatic(modifiers) && !Modifier.isPublic(modifiers)
                    && !Modifier.isProtected(modifiers));
            isFine("rule 2: none inside of " + one, one.getDeclaredClasses().length == 0);
        }
        all.add(RoundLab.class);
        isFine("rule 11: classes", all.size() <= MOST_CLASSES);
        for (Class<?> one : all) {
            fields(one);
            for (Constructor<?> constructor : one.getDeclaredConstructors()) {
                parameters(constructor);
            }
            for (Method method : one.getDeclaredMethods()) {
                parameters(method);
                isFine("rule 1: " + method, !Modifier.isPrivate(method.getModifiers())
                        || !face.contains(method.getName()));
            }
        }
    }

    private static void fields(Class<?> one) {
        int own = 0;
        for (Field field : one.getDeclaredFields()) {
            if (Modifier.isStatic(field.getModifiers())) {
                isFine("rule 5: " + field, Modifier.isFinal(field.getModifiers())
                        && CONSTANTS.contains(field.getType()));
            } else {
                own++;
            }
        }
        isFine("rule 11: fields of " + one, own <= MOST_FIELDS);
    }

    private static void parameters(Executable one) {
        isFine("rule 11: " + one, one.getParameterCount() <= MOST_PARAMETERS);
    }
}
