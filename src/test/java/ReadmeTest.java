import java.io.IOException;
import java.lang.reflect.Method;
import java.lang.reflect.Modifier;
import java.nio.file.Files;
import java.nio.file.Path;
import java.util.regex.Matcher;
import java.util.regex.Pattern;

/** README.md: its examples answer as it says, and it names every call. Run where README.md lies. */
public final class ReadmeTest {
    private static final Pattern CALL = Pattern.compile("row\\.(\\w+)\\(([^)]*)\\);\\s*// (-?\\d+)");

    public static void main(String[] args) throws IOException, ReflectiveOperationException {
        String readme = Files.readString(Path.of("README.md"));
        playExamples(readme);
        for (Method m : TanRow.class.getDeclaredMethods()) {
            if (Modifier.isPublic(m.getModifiers())) {
                Checks.due("README names " + m.getName(), readme.contains("`" + m.getName() + "`") ? 1 : 0, 1);
            }
        }
        Checks.end();
    }

    private static void playExamples(String readme) throws ReflectiveOperationException {
        TanRow row = new TanRow();
        int played = 0;
        for (String line : readme.split("\n")) {
            Matcher m = CALL.matcher(line);
            boolean plays = m.lookingAt();
            Checks.due("an answer stands behind " + line, line.startsWith("row.") == plays ? 1 : 0, 1);
            if (plays) {
                Checks.due("README: " + line, ask(row, m.group(1), m.group(2)), Long.parseLong(m.group(3)));
                played++;
            }
        }
        Checks.due("README has examples", played > 0 ? 1 : 0, 1);
    }

    private static long ask(TanRow row, String call, String arguments) throws ReflectiveOperationException {
        String[] words = arguments.isEmpty() ? new String[0] : arguments.split(",");
        for (Method m : TanRow.class.getDeclaredMethods()) {
            if (m.getName().equals(call) && Modifier.isPublic(m.getModifiers()) && m.getParameterCount() == words.length) {
                Object[] a = new Object[words.length];
                for (int i = 0; i < words.length; i++) {
                    long v = Long.decode(words[i].trim());
                    a[i] = m.getParameterTypes()[i] == long.class ? (Object) v : (Object) (int) v;
                }
                return ((Number) m.invoke(row, a)).longValue();
            }
        }
        throw new NoSuchMethodException(call);
    }
}
