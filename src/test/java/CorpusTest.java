import java.io.IOException;
import java.nio.charset.StandardCharsets;
import java.nio.file.Files;
import java.nio.file.Path;
import java.util.List;

/**
 * Programs with what a second, plain implementation of the document answered for them: all that is told, known,
 * alarmed and run. README.md tells how the corpus is written.
 */
public final class CorpusTest {
    private static final Trial TRIAL = new Trial("CorpusTest");
    private static final Path CORPUS = Path.of("src", "test", "corpus", "programs.txt");

    private static String program;
    private static int nextPoint;

    public static void main(String[] args) throws IOException {
        List<String> rows = Files.readAllLines(CORPUS, StandardCharsets.ISO_8859_1);
        TRIAL.due("there are rows", rows.size() > 2000 ? 1 : 0, 1);
        for (String row : rows) {
            int blank = row.indexOf(' ');
            String kind = blank < 0 ? row : row.substring(0, blank);
            String rest = blank < 0 ? "" : row.substring(blank + 1);
            switch (kind) {
                case "program" -> load(rest);
                case "end" -> end(rest.split(" "));
                case "point" -> point(rest.split(" ", 6));
                case "inputs" -> inputs(rest.split(" "));
                case "run" -> run(rest.split(" "));
                default -> TRIAL.due("a row of the corpus", row, "one that is known");
            }
        }
        TRIAL.finish();
    }

    private static void due(String what, long got, String want) {
        TRIAL.due(what + " of " + program, got, Long.parseLong(want));
    }

    private static void load(String text) {
        program = text;
        nextPoint = 0;
        TRIAL.fresh();
    }

    private static void end(String[] want) {
        due("end()", TRIAL.load(program), want[0]);
        due("told(0)", TRIAL.desk.told(0), want[1]);
        due("told(1)", TRIAL.desk.told(1), want[2]);
        due("told(2)", TRIAL.desk.told(2), want[3]);
        due("inductive()", TRIAL.desk.inductive(), want[0].equals("3") ? "-3" : "-1");
    }

    private static void point(String[] want) {
        int p = nextPoint++;
        for (int what = 0; what < 5; what++) {
            due("point(" + p + ", " + what + ")", TRIAL.desk.point(p, what), want[what]);
        }
        due("point(" + p + ", 5)", TRIAL.desk.point(p, 5), want[5].equals("nothing") ? "0" : "1");
        TRIAL.due("the line of point " + p + " of " + program, TRIAL.line(false, p), want[5]);
        TRIAL.due("the line of the claim at " + p + " of " + program, TRIAL.line(true, p), want[5]);
    }

    private static void inputs(String[] inputs) {
        due("points()", TRIAL.desk.points(), String.valueOf(nextPoint));
        for (String input : inputs) {
            TRIAL.desk.input(Integer.parseInt(input));
        }
    }

    private static void run(String[] want) {
        due("run(" + want[0] + ")", TRIAL.desk.run(Integer.parseInt(want[0])), want[1]);
        due("ran(0)", TRIAL.desk.ran(0), want[2]);
        due("ran(1)", TRIAL.desk.ran(1), want[3]);
        due("ran(2)", TRIAL.desk.ran(2), want[4]);
        for (int x = 0; x + 5 < want.length; x++) {
            due("value(" + x + ")", TRIAL.desk.value(x), want[x + 5]);
        }
        due("outside()", TRIAL.desk.outside(), "0");
    }
}
