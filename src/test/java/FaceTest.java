import java.lang.reflect.Constructor;
import java.lang.reflect.Field;
import java.lang.reflect.Method;
import java.lang.reflect.Modifier;
import java.util.Arrays;
import java.util.Map;
import java.util.TreeMap;
import java.util.TreeSet;

/** The public face is the document's: no call or constant more or less, and no private name twice. */
public final class FaceTest {
    private static final String[] FACE = {
        "int stand(int, int, int, int, boolean)", "int leave(int)", "int table(int, boolean)", "int set(int, int)",
        "int say(int)", "int wipe()", "int fault()", "int rules(int, int)", "int opens(int, int)", "int never()",
        "int reign(int)", "int years(int)", "int weight(int, int)", "long chance(int, int)", "int best(int)",
        "long bestChance(int, int)", "int rests(int)", "int coup(int)", "int quick(int, int, int)",
        "int seen(int, int)", "int forget()", "int fits()", "int year(int, int, int)", "int image(int)",
        "int restore(int)", "int told(int)",
    };

    public static void main(String[] args) throws IllegalAccessException {
        Checks checks = new Checks();
        Class<?> face = UmbrellaVote.class;
        checks.due("public and final", Modifier.isPublic(face.getModifiers()) && Modifier.isFinal(face.getModifiers()));

        TreeSet<String> open = new TreeSet<>();
        TreeSet<String> openNames = new TreeSet<>();
        TreeSet<String> hiddenNames = new TreeSet<>();
        for (Method method : face.getDeclaredMethods()) {
            if (Modifier.isPrivate(method.getModifiers()) || method.isSynthetic()) {
                hiddenNames.add(method.getName());
            } else {
                open.add(method.getReturnType() + " " + method.getName() + parameters(method.getParameterTypes()));
                openNames.add(method.getName());
                checks.due("public: " + method, Modifier.isPublic(method.getModifiers()));
            }
        }
        checks.due("the methods", open.equals(new TreeSet<>(Arrays.asList(FACE))));
        hiddenNames.retainAll(openNames);
        checks.due("private names that are public ones too: " + hiddenNames, hiddenNames.isEmpty());

        Constructor<?>[] constructors = face.getDeclaredConstructors();
        checks.due("one public constructor without arguments", constructors.length == 1
            && Modifier.isPublic(constructors[0].getModifiers()) && constructors[0].getParameterCount() == 0);
        checks.due("the constants", constants(face).equals(Map.of("UNKNOWN", -1L, "OUTSIDE", -2L, "STATE", -3L,
            "FULL", -4L, "NO", -5L, "NONE", -6L, "GONE", -1000000000000000000L)));
        checks.end();
    }

    private static String parameters(Class<?>[] types) {
        return Arrays.toString(types).replace('[', '(').replace(']', ')');
    }

    private static Map<String, Long> constants(Class<?> face) throws IllegalAccessException {
        Map<String, Long> constants = new TreeMap<>();
        for (Field field : face.getDeclaredFields()) {
            int modifiers = field.getModifiers();
            if (!Modifier.isPrivate(modifiers) && !field.isSynthetic()) {
                long value = field.getType() == long.class ? field.getLong(null) : field.getInt(null);
                boolean constant = Modifier.isPublic(modifiers) && Modifier.isStatic(modifiers) && Modifier.isFinal(modifiers);
                constants.put(constant ? field.getName() : "no constant: " + field.getName(), value);
            }
        }
        return constants;
    }
}
