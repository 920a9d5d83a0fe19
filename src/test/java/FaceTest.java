import java.lang.reflect.Constructor;
import java.lang.reflect.Field;
import java.lang.reflect.Method;
import java.lang.reflect.Modifier;
import java.util.Arrays;
import java.util.TreeSet;

/** The public face: the class shows the document's constants, constructor and methods, and no more. */
public final class FaceTest {
    private static final String[] FACE = {
        "public static final int LIMIT", "public static final int MARKET", "public static final int AT_ONCE",
        "public static final int ALL", "public static final int QUIET", "public static final int STOP",
        "public MatchFloor()",
        "public int submit(int,int,int,int) throws IllegalArgumentException,IllegalStateException",
        "public int cancel(int) throws NoSuchElementException",
        "public int amend(int,int,int) throws IllegalArgumentException,NoSuchElementException",
        "public int withdraw(int) throws IllegalArgumentException",
        "public int levels(int) throws IllegalArgumentException",
        "public int level(int,int,int) throws IllegalArgumentException,IndexOutOfBoundsException",
        "public int order(int,int) throws NoSuchElementException,IllegalArgumentException",
        "public int fill(int,int) throws IllegalArgumentException,IndexOutOfBoundsException",
        "public int fills()", "public int last()", "public long turnover()",
        "public int figure(int) throws IllegalArgumentException",
    };

    public static void main(String[] args) {
        Class<?> face = MatchFloor.class;
        Check.due("the class", Modifier.toString(face.getModifiers()), "public final");
        Check.due("what it extends", face.getSuperclass().getName(), "java.lang.Object");
        TreeSet<String> seen = new TreeSet<>();
        for (Field field : face.getDeclaredFields()) {
            if (!Modifier.isPrivate(field.getModifiers())) {
                seen.add(Modifier.toString(field.getModifiers()) + " " + field.getType() + " " + field.getName());
            }
        }
        for (Constructor<?> made : face.getDeclaredConstructors()) {
            seen.add(plain(made.toGenericString()));
        }
        TreeSet<String> hidden = new TreeSet<>();
        TreeSet<String> shown = new TreeSet<>();
        for (Method method : face.getDeclaredMethods()) {
            if (Modifier.isPrivate(method.getModifiers())) {
                hidden.add(method.getName());
            } else {
                shown.add(method.getName());
                seen.add(plain(method.toGenericString()));
            }
        }
        Check.due("the face", String.join("\n  ", seen), String.join("\n  ", new TreeSet<>(Arrays.asList(FACE))));
        hidden.retainAll(shown);
        Check.due("private methods with a public name", hidden.toString(), "[]");
        Check.end();
    }

    private static String plain(String signature) {
        return signature.replace("java.lang.", "").replace("java.util.", "").replace("MatchFloor.", "").replace(", ", ",");
    }
}
