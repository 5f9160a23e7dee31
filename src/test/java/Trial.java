import java.nio.charset.StandardCharsets;

/** What the tests share: a desk, calls that are compared with what is due, and the exit code. */
final class Trial {
    private final String name;
    private int calls;
    private int wrong;
    InvariantDesk desk = new InvariantDesk();

    Trial(String name) {
        this.name = name;
    }

    void due(String call, long got, long want) {
        calls++;
        if (got != want) {
            wrong++;
            System.out.println(name + ": " + call + " answered " + got + ", due is " + want);
        }
    }

    void due(String call, String got, String want) {
        calls++;
        if (!got.equals(want)) {
            wrong++;
            System.out.println(name + ": " + call + " answered \"" + got + "\", due is \"" + want + "\"");
        }
    }

    void fresh() {
        desk = new InvariantDesk();
    }

    /** Feeds the bytes, with blanks behind them, and ends the text behind the last of them. */
    int load(byte[] text) {
        for (int i = 0; i < text.length; i += 20) {
            desk.feed(word(text, i), word(text, i + 4), word(text, i + 8), word(text, i + 12), word(text, i + 16));
        }
        return desk.end(text.length);
    }

    int load(String text) {
        return load(text.getBytes(StandardCharsets.ISO_8859_1));
    }

    /** A program, on a new desk, that must be one. */
    void program(String text) {
        fresh();
        due("end of " + text, load(text), 0);
    }

    private static int word(byte[] text, int from) {
        int word = 0;
        for (int k = from; k < from + 4; k++) {
            word = word << 8 | (k < text.length ? text[k] & 255 : ' ');
        }
        return word;
    }

    String line(boolean claims, int p) {
        int bytes = desk.show(claims, p);
        StringBuilder line = new StringBuilder();
        for (int i = 0; i < bytes; i++) {
            line.append((char) desk.shown(i));
        }
        return line.toString();
    }

    void known(int p, String want) {
        due("the line of point " + p, line(false, p), want);
    }

    void claimed(int p, String want) {
        due("the line of the claim at " + p, line(true, p), want);
    }

    void finish() {
        System.out.println(name + ": " + calls + " calls, " + wrong + " wrong");
        if (wrong > 0) {
            System.exit(1);
        }
    }
}
