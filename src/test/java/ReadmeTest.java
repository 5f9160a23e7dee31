import java.io.IOException;
import java.lang.reflect.Method;
import java.lang.reflect.Modifier;
import java.nio.charset.StandardCharsets;
import java.nio.file.Files;
import java.nio.file.Path;
import java.util.HashSet;
import java.util.Set;
import java.util.regex.Matcher;
import java.util.regex.Pattern;

/** Makes the calls that README.md shows, row by row, and tries the text that it shows. */
public final class ReadmeTest {
    private static final Trial TRIAL = new Trial("ReadmeTest");
    private static final Path README = Path.of("README.md");
    /** A call, what stands in its brackets, its answer, and what is said of it. */
    private static final Pattern CALL = Pattern.compile("(\\w+)\\(([^)]*)\\)\\s+->\\s+(-?\\d+)\\s*(?:// (.*))?");

    private static final Set<String> MADE = new HashSet<>();
    private static StringBuilder text = new StringBuilder();

    public static void main(String[] args) throws IOException, ReflectiveOperationException {
        boolean inText = false;
        int rows = 0;
        for (String row : Files.readAllLines(README, StandardCharsets.UTF_8)) {
            if (row.startsWith("```")) {
                inText = row.equals("```text");
                tryText();
            } else if (inText && row.equals("new InvariantDesk()")) {
                TRIAL.fresh();
            } else if (inText && row.contains("->")) {
                call(row);
                rows++;
            } else if (inText) {
                text.append(row).append('\n');
            }
        }
        TRIAL.due("there are calls", rows > 50 ? 1 : 0, 1);
        eachCallIsMade();
        TRIAL.finish();
    }

    private static void call(String row) throws ReflectiveOperationException {
        Matcher parts = CALL.matcher(row);
        if (!parts.matches()) {
            TRIAL.due("a row of README.md", row, "a call with its answer");
            return;
        }
        for (Method method : InvariantDesk.class.getMethods()) {
            if (method.getName().equals(parts.group(1)) && isOfTheFace(method)) {
                Object[] values = values(method.getParameterTypes(), parts.group(2));
                Number got = (Number) method.invoke(TRIAL.desk, values);
                TRIAL.due(row, got.longValue(), Long.parseLong(parts.group(3)));
                MADE.add(method.getName());
                tryRemark(parts.group(1), values, parts.group(4));
            }
        }
        TRIAL.due(row + " is a call of the class", MADE.contains(parts.group(1)) ? 1 : 0, 1);
    }

    private static boolean isOfTheFace(Method method) {
        return method.getDeclaringClass() == InvariantDesk.class && Modifier.isPublic(method.getModifiers());
    }

    private static Object[] values(Class<?>[] types, String written) {
        String[] parts = written.isEmpty() ? new String[0] : written.split(", ");
        Object[] values = new Object[parts.length];
        TRIAL.due("how many are in (" + written + ")", parts.length, types.length);
        for (int k = 0; k < Math.min(parts.length, types.length); k++) {
            if (types[k] == boolean.class) {
                values[k] = parts[k].equals("true");
            } else {
                long number = Long.decode(parts[k]);
                values[k] = types[k] == int.class ? (Object) (int) number : (Object) number;
            }
        }
        return values;
    }

    /** Of feed() the text that is fed is said, of show() the line. */
    private static void tryRemark(String call, Object[] values, String remark) {
        if (call.equals("feed")) {
            TRIAL.due("what is fed", fed(values).stripTrailing(), remark);
        } else if (call.equals("show")) {
            TRIAL.due("the line", TRIAL.line((Boolean) values[0], (Integer) values[1]), remark);
        }
    }

    private static String fed(Object[] words) {
        StringBuilder fed = new StringBuilder();
        for (Object word : words) {
            for (int shift = 24; shift >= 0; shift -= 8) {
                fed.append((char) ((Integer) word >>> shift & 255));
            }
        }
        return fed.toString();
    }

    private static void eachCallIsMade() {
        for (Method method : InvariantDesk.class.getMethods()) {
            if (isOfTheFace(method)) {
                TRIAL.due(method.getName() + " is in README.md", MADE.contains(method.getName()) ? 1 : 0, 1);
            }
        }
    }

    /** What stands between rows with calls is no text; one that is must be a program. */
    private static void tryText() {
        if (text.indexOf("fun ") >= 0) {
            TRIAL.program(text.toString());
        }
        text = new StringBuilder();
    }
}
