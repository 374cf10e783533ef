import java.lang.reflect.Constructor;
import java.lang.reflect.Field;
import java.lang.reflect.Method;
import java.lang.reflect.Modifier;
import java.util.Arrays;
import java.util.TreeSet;

/** The face: the document's constructor and methods with the exceptions written there, and no other. */
public final class FaceTest {
    private static final String BAD = "IllegalArgumentException";
    private static final String FULL = "IllegalStateException";
    private static final String MISSING = "NoSuchElementException";

    private FaceTest() {
    }

    public static void main(String[] args) {
        Checks checks = new Checks();
        checks.due("the class", Modifier.toString(HeapPress.class.getModifiers()), "public final");
        checks.due("the face", found().toString(), promised().toString());
        checks.due("constructors", HeapPress.class.getDeclaredConstructors().length, 1);
        checks.due("hidden methods of a face's name", hiddenNamesakes(), 0);
        checks.due("fields that can be seen", seenFields(), 0);
        checks.due("static fields that can change", changeableStatics(), 0);
        checks.due("fields that are no rows of its own", strangeFields(), 0);
        checks.end();
    }

    private static TreeSet<String> promised() {
        return new TreeSet<>(Arrays.asList(
                "public HeapPress() []",
                "public int make(int, boolean, int) [" + BAD + ", " + FULL + "]",
                "public int weak(int, int) [" + BAD + ", " + FULL + ", " + MISSING + "]",
                "public void copy(int, int) [" + BAD + "]",
                "public void drop(int) [" + BAD + "]",
                "public void link(int, int, int) [" + BAD + ", " + MISSING + "]",
                "public void follow(int, int, int) [" + BAD + ", " + MISSING + "]",
                "public void put(int, int, long) [" + BAD + ", " + MISSING + "]",
                "public long get(int, int) [" + BAD + ", " + MISSING + "]",
                "public int collect() []",
                "public int state(int, int) [" + BAD + "]",
                "public int count(int) []"));
    }

    private static TreeSet<String> found() {
        TreeSet<String> face = new TreeSet<>();
        for (Constructor<?> c : HeapPress.class.getDeclaredConstructors()) {
            face.add(Modifier.toString(c.getModifiers()) + " " + c.getName() + names(c.getParameterTypes(), "()")
                    + " " + names(c.getExceptionTypes(), "[]"));
        }
        for (Method m : HeapPress.class.getDeclaredMethods()) {
            if (!Modifier.isPrivate(m.getModifiers())) {
                face.add(Modifier.toString(m.getModifiers()) + " " + m.getReturnType() + " " + m.getName()
                        + names(m.getParameterTypes(), "()") + " " + names(m.getExceptionTypes(), "[]"));
            }
        }
        return face;
    }

    private static String names(Class<?>[] types, String brackets) {
        StringBuilder text = new StringBuilder();
        for (Class<?> type : types) {
            text.append(text.length() == 0 ? "" : ", ").append(type.getSimpleName());
        }
        return brackets.charAt(0) + text.toString() + brackets.charAt(1);
    }

    private static int hiddenNamesakes() {
        int count = 0;
        for (Method hidden : HeapPress.class.getDeclaredMethods()) {
            for (Method open : HeapPress.class.getDeclaredMethods()) {
                boolean pair = Modifier.isPrivate(hidden.getModifiers()) && Modifier.isPublic(open.getModifiers());
                count += pair && hidden.getName().equals(open.getName()) ? 1 : 0;
            }
        }
        return count;
    }

    private static int seenFields() {
        int count = 0;
        for (Field field : HeapPress.class.getDeclaredFields()) {
            count += Modifier.isPrivate(field.getModifiers()) ? 0 : 1;
        }
        return count;
    }

    private static int changeableStatics() {
        int count = 0;
        for (Field field : HeapPress.class.getDeclaredFields()) {
            int bits = field.getModifiers();
            count += Modifier.isStatic(bits) && !Modifier.isFinal(bits) ? 1 : 0;
        }
        return count;
    }

    // "All memory is the class's own rows": numbers, and rows of them that no call makes anew.
    private static int strangeFields() {
        int count = 0;
        for (Field field : HeapPress.class.getDeclaredFields()) {
            Class<?> type = field.getType();
            boolean row = type.isArray() && type.getComponentType().isPrimitive()
                    && Modifier.isFinal(field.getModifiers());
            count += row || type.isPrimitive() ? 0 : 1;
        }
        return count;
    }
}
