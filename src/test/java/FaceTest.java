import java.lang.reflect.Constructor;
import java.lang.reflect.Field;
import java.lang.reflect.Method;
import java.lang.reflect.Modifier;
import java.util.ArrayList;
import java.util.Arrays;
import java.util.List;
import java.util.TreeSet;

/** The public face: the members of the document, and no other that is not private. */
public final class FaceTest {
    private static final String[] FACE = {
        "public static final int NONE",
        "public RoundLab()",
        "public int word(int) throws IllegalStateException",
        "public int builtin(int) throws NoSuchElementException",
        "public int clear()",
        "public int check()",
        "public int deep(int,int) throws NoSuchElementException,IllegalStateException",
        "public int input(int,int) throws NoSuchElementException,IllegalArgumentException",
        "public void start(int) throws IllegalArgumentException,IllegalStateException",
        "public int hear(int,int) throws NoSuchElementException,IllegalArgumentException",
        "public int round() throws IllegalStateException",
        "public int state(int,int) throws NoSuchElementException",
        "public int decided(int) throws NoSuchElementException",
        "public int message(int) throws NoSuchElementException",
        "public int explore(int,int,int,int) throws IllegalArgumentException,IllegalStateException",
        "public int trace(int) throws NoSuchElementException",
        "public int at(int) throws NoSuchElementException",
        "public int count(int) throws IllegalArgumentException",
    };

    public static void main(String[] args) {
        List<String> members = new ArrayList<>();
        for (Field field : RoundLab.class.getDeclaredFields()) {
            if (!Modifier.isPrivate(field.getModifiers())) {
                members.add(plain(field.toGenericString()));
            }
        }
        for (Constructor<?> constructor : RoundLab.class.getDeclaredConstructors()) {
            members.add(plain(constructor.toGenericString()));
        }
        for (Method method : RoundLab.class.getDeclaredMethods()) {
            if (!Modifier.isPrivate(method.getModifiers())) {
                members.add(plain(method.toGenericString()));
            }
        }
        String want = String.join("\n", new TreeSet<>(Arrays.asList(FACE)));
        Checks.compare("the face", want, String.join("\n", new TreeSet<>(members)));
        Checks.compare("the class", "public final class RoundLab", RoundLab.class.toGenericString());
        Checks.due("NONE", -1, () -> RoundLab.NONE);
        Checks.finish();
    }

    private static String plain(String member) {
        return member.replace("RoundLab.", "").replace("java.util.", "").replace("java.lang.", "")
                .replace(", ", ",");
    }
}
