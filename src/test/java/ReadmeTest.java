import java.io.IOException;
import java.lang.reflect.InvocationTargetException;
import java.lang.reflect.Method;
import java.lang.reflect.Modifier;
import java.nio.file.Files;
import java.nio.file.Path;
import java.util.Map;
import java.util.Set;
import java.util.TreeMap;
import java.util.TreeSet;
import java.util.regex.Matcher;
import java.util.regex.Pattern;

/** What README.md says of the class: each call there answers what stands behind it, and every call is told of. */
public final class ReadmeTest {
    private static final Check CHECK = new Check("readme");
    private static final Pattern CALL =
        Pattern.compile("x\\.(\\w+)\\((.*)\\);\\s*// (-?\\d+|true|false|\\w+Exception)\\b.*");
    private static final String MADE = "SawSums x = new SawSums();";

    private ReadmeTest() {
    }

    public static void main(String[] args) throws IOException {
        Map<String, Method> face = face();
        Set<String> untold = new TreeSet<>(face.keySet());
        SawSums x = null;
        boolean java = false;
        for (String line : Files.readAllLines(Path.of(System.getenv().getOrDefault("SAWSUMS_README", "README.md")))) {
            if (line.startsWith("```")) {
                java = line.equals("```java");
            } else if (java && line.equals(MADE)) {
                x = new SawSums();
            } else if (java) {
                untold.remove(call(x, face, line));
            }
        }
        CHECK.yes("every call is told of, not so " + untold, untold.isEmpty());
        CHECK.finish();
    }

    private static Map<String, Method> face() {
        Map<String, Method> face = new TreeMap<>();
        for (Method method : SawSums.class.getDeclaredMethods()) {
            if (Modifier.isPublic(method.getModifiers())) {
                face.put(method.getName(), method);
            }
        }
        return face;
    }

    /** Carries out the call of a line, and tells its name. */
    private static String call(SawSums x, Map<String, Method> face, String line) {
        Matcher parts = CALL.matcher(line);
        if (x == null || !parts.matches() || !face.containsKey(parts.group(1))) {
            CHECK.fault("no call with its answer: " + line);
            return "";
        }
        Method method = face.get(parts.group(1));
        String got = answer(x, method, parts.group(2));
        CHECK.yes(line.trim() + " (it answers " + got + ")", got.equals(parts.group(3)));
        return method.getName();
    }

    private static String answer(SawSums x, Method method, String written) {
        String[] words = written.isEmpty() ? new String[0] : written.split(", ");
        if (words.length != method.getParameterCount()) {
            return "nothing, as its numbers are not so many";
        }
        Object[] given = new Object[words.length];
        for (int i = 0; i < words.length; i++) {
            given[i] = method.getParameterTypes()[i] == boolean.class ? (Object) Boolean.valueOf(words[i])
                : (Object) (words[i].equals("SawSums.NONE") ? Integer.valueOf(SawSums.NONE) : Integer.decode(words[i]));
        }
        try {
            return String.valueOf(method.invoke(x, given));
        } catch (InvocationTargetException thrown) {
            return thrown.getCause().getClass().getSimpleName();
        } catch (IllegalAccessException closed) {
            return "nothing, as it is not public";
        }
    }
}
