import java.io.IOException;
import java.lang.reflect.Field;
import java.lang.reflect.Method;
import java.lang.reflect.Modifier;
import java.nio.charset.StandardCharsets;
import java.nio.file.Files;
import java.nio.file.Path;
import java.util.ArrayList;
import java.util.HashSet;
import java.util.List;
import java.util.Set;
import java.util.regex.Pattern;

/** Those rules of ../shared/LANGUAGE.md that can be seen from the class and from its text; it does not replace a reading. */
public final class LanguageTest {
    private static final Trial TRIAL = new Trial("LanguageTest");
    private static final Path SOURCE = Path.of("src", "main", "java", "InvariantDesk.java");
    private static final int MOST_PARAMETERS = 7;
    private static final int MOST_CLASSES = 12;
    private static final int MOST_FIELDS = 22;
    private static final int MOST_ROWS = 60;
    private static final Set<String> IMPORTS = Set.of("java.util.Arrays", "java.util.ArrayList", "java.util.List");
    /** Words and signs that rules 2, 4, 6, 12 and 13 leave out, or that this class does without. */
    private static final String[] LEFT_OUT = {"->", "::", "\\bthrow\\b", "\\btry\\b", "\\bcatch\\b", "\\bfinally\\b", "\\bsynchronized\\b",
        "\\bassert\\b", "\\bdouble\\b", "\\bfloat\\b", "\\w+Exact\\(", "\\bSystem\\.(?!arraycopy\\b)", "\\bThread\\b", "\\bRandom\\b",
        "\\.equals\\(", "\\bhashCode\\b", "\\btoString\\b", "\\bpackage\\b", "\\bnative\\b", "\\bvar \\w+ =", "\\bfor \\([^;]*:"};

    public static void main(String[] args) throws IOException {
        List<Class<?>> classes = new ArrayList<>(List.of(InvariantDesk.class.getDeclaredClasses()));
        classes.add(InvariantDesk.class);
        TRIAL.due("rule 11: no more than twelve classes", classes.size() <= MOST_CLASSES ? 1 : 0, 1);
        for (Class<?> one : classes) {
            tryFields(one);
            tryMethods(one);
            if (one != InvariantDesk.class) {
                TRIAL.due("rule 1: " + one.getName() + " is static", Modifier.isStatic(one.getModifiers()) ? 1 : 0, 1);
                TRIAL.due("rule 1: " + one.getName() + " is not public", Modifier.isPublic(one.getModifiers()) ? 1 : 0, 0);
            }
        }
        tryText(Files.readAllLines(SOURCE, StandardCharsets.UTF_8));
        TRIAL.finish();
    }

    private static void tryFields(Class<?> one) {
        int fields = 0;
        for (Field field : one.getDeclaredFields()) {
            if (Modifier.isStatic(field.getModifiers())) {
                TRIAL.due("rule 5: " + field + " is final", Modifier.isFinal(field.getModifiers()) ? 1 : 0, 1);
            } else {
                fields++;
            }
            Class<?> type = field.getType();
            boolean flat = !type.isArray() || !type.getComponentType().isArray();
            TRIAL.due("rule 3: " + field + " has one dimension", flat ? 1 : 0, 1);
        }
        TRIAL.due("rule 11: " + one.getName() + " has some twenty fields", fields <= MOST_FIELDS ? 1 : 0, 1);
    }

    private static void tryMethods(Class<?> one) {
        Set<String> face = new HashSet<>();
        for (Method method : InvariantDesk.class.getDeclaredMethods()) {
            if (Modifier.isPublic(method.getModifiers())) {
                face.add(method.getName());
            }
        }
        for (Method method : one.getDeclaredMethods()) {
            boolean few = method.getParameterCount() <= MOST_PARAMETERS;
            TRIAL.due("rule 11: " + method + " has no more than seven parameters", few ? 1 : 0, 1);
            boolean own = Modifier.isPublic(method.getModifiers()) || !face.contains(method.getName());
            TRIAL.due("rule 1: " + method + " has no name of the face", own ? 1 : 0, 1);
        }
    }

    private static void tryText(List<String> rows) {
        for (int k = 0; k < rows.size(); k++) {
            String row = rows.get(k);
            String code = row.strip().matches("(//|\\*|/\\*).*") ? "" : row.replaceAll("\"([^\"\\\\]|\\\\.)*\"", "\"\"");
            for (String left : LEFT_OUT) {
                TRIAL.due("row " + (k + 1) + " has " + left, Pattern.compile(left).matcher(code).find() ? 1 : 0, 0);
            }
            if (code.startsWith("import ")) {
                TRIAL.due("rule 4: " + row, IMPORTS.contains(code.replaceAll("import |;", "")) ? 1 : 0, 1);
            }
            // methods of the class begin behind four blanks, those of the classes inside it behind eight
            if (code.matches("( {4}| {8})\\w.*\\) \\{")) {
                String end = row.substring(0, row.indexOf(row.strip())) + "}";
                int length = rows.subList(k, rows.size()).indexOf(end) + 1;
                TRIAL.due("rule 11: some sixty rows for " + row.strip(), length > 1 && length <= MOST_ROWS ? 1 : 0, 1);
            }
        }
    }
}
