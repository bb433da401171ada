import java.io.IOException;
import java.lang.reflect.Method;
import java.lang.reflect.Modifier;
import java.nio.file.Files;
import java.nio.file.Path;
import java.util.regex.Matcher;
import java.util.regex.Pattern;

/** The examples of README.md hold: each of their lines is called, on one object, and answers what stands behind it. */
public final class ReadmeTest {
    private static final Pattern CALL = Pattern.compile("vote\\.(\\w+)\\((.*)\\); *// ([^:]+)(:.*)?");
    private static final int FEWEST_CALLS = 40;

    private final Checks checks = new Checks();
    private UmbrellaVote vote;
    private int calls = 0;

    public static void main(String[] args) throws IOException, ReflectiveOperationException {
        String readme = Files.readString(Path.of("README.md"));
        ReadmeTest test = new ReadmeTest();
        test.examplesHold(readme);
        test.allIsNamed(readme);
        test.checks.end();
    }

    private void examplesHold(String readme) throws ReflectiveOperationException {
        boolean example = false;
        for (String line : readme.split("\n")) {
            if (line.startsWith("```")) {
                example = line.equals("```java");
            } else if (example && !line.isBlank()) {
                lineHolds(line);
            }
        }
        // An example that is not found, or not read, must not pass for one that holds.
        checks.due("as many lines as an example needs: " + calls, calls >= FEWEST_CALLS);
    }

    private void lineHolds(String line) throws ReflectiveOperationException {
        if (line.equals("UmbrellaVote vote = new UmbrellaVote();")) {
            vote = new UmbrellaVote();
            return;
        }
        Matcher call = CALL.matcher(line);
        if (vote == null || !call.matches()) {
            checks.due("a call with its answer: " + line, false);
            return;
        }
        calls++;
        checks.due("README: " + line, answer(call.group(1), call.group(2)), sum(call.group(3)));
    }

    private long answer(String name, String arguments) throws ReflectiveOperationException {
        String[] texts = arguments.isEmpty() ? new String[0] : arguments.split(", ");
        Method method = publicMethod(name);
        Class<?>[] types = method.getParameterTypes();
        Object[] values = new Object[texts.length];
        for (int i = 0; i < texts.length; i++) {
            values[i] = types[i] == boolean.class ? (Object) texts[i].equals("true") : (Object) number(texts[i]);
        }
        return ((Number) method.invoke(vote, values)).longValue();
    }

    private static Method publicMethod(String name) throws NoSuchMethodException {
        for (Method method : UmbrellaVote.class.getDeclaredMethods()) {
            if (Modifier.isPublic(method.getModifiers()) && method.getName().equals(name)) {
                return method;
            }
        }
        throw new NoSuchMethodException(name);
    }

    private static int number(String text) {
        return text.startsWith("'") ? text.charAt(1) : Integer.parseInt(text);
    }

    /** A number, a constant's name, or some of them added. */
    private static long sum(String text) throws ReflectiveOperationException {
        long sum = 0;
        for (String one : text.trim().split(" \\+ ")) {
            boolean isName = Character.isLetter(one.charAt(0));
            sum += isName ? UmbrellaVote.class.getField(one).getLong(null) : Long.parseLong(one);
        }
        return sum;
    }

    private void allIsNamed(String readme) {
        for (Method method : UmbrellaVote.class.getDeclaredMethods()) {
            if (Modifier.isPublic(method.getModifiers())) {
                checks.due("README names " + method.getName(), readme.contains("`" + method.getName() + "("));
            }
        }
        for (String refusal : new String[] {"UNKNOWN", "OUTSIDE", "STATE", "FULL", "NO", "NONE"}) {
            checks.due("README tells what is " + refusal, readme.contains("`" + refusal + "` (" + value(refusal) + ")"));
        }
    }

    private static int value(String constant) {
        try {
            return UmbrellaVote.class.getField(constant).getInt(null);
        } catch (ReflectiveOperationException e) {
            return 0;
        }
    }
}
