import java.nio.charset.StandardCharsets;
import java.util.ArrayList;
import java.util.List;

/** A desk whose calls are counted, as what it answers behind the 512th one is free. */
final class Desk {
    private final InvariantDesk desk = new InvariantDesk();
    private int calls;

    int calls() {
        return calls;
    }

    int feed(int a, int b, int c, int d, int e) {
        calls++;
        return desk.feed(a, b, c, d, e);
    }

    int end(int n) {
        calls++;
        return desk.end(n);
    }

    int told(int what) {
        calls++;
        return desk.told(what);
    }

    int points() {
        calls++;
        return desk.points();
    }

    int point(int p, int what) {
        calls++;
        return desk.point(p, what);
    }

    long bound(boolean claims, int p, int x, int s, int y, int t) {
        calls++;
        return desk.bound(claims, p, x, s, y, t);
    }

    long range(boolean claims, int p, int a, boolean greatest) {
        calls++;
        return desk.range(claims, p, a, greatest);
    }

    int claim(int p, int x, int s, int y, int t, long c) {
        calls++;
        return desk.claim(p, x, s, y, t, c);
    }

    int claimRange(int p, int a, boolean above, int c) {
        calls++;
        return desk.claimRange(p, a, above, c);
    }

    int claimNothing(int p) {
        calls++;
        return desk.claimNothing(p);
    }

    int unclaim() {
        calls++;
        return desk.unclaim();
    }

    int inductive() {
        calls++;
        return desk.inductive();
    }

    int input(int x) {
        calls++;
        return desk.input(x);
    }

    int drop() {
        calls++;
        return desk.drop();
    }

    int run(int steps) {
        calls++;
        return desk.run(steps);
    }

    int ran(int what) {
        calls++;
        return desk.ran(what);
    }

    int value(int x) {
        calls++;
        return desk.value(x);
    }

    int place(int a, int i) {
        calls++;
        return desk.place(a, i);
    }

    int outside() {
        calls++;
        return desk.outside();
    }

    int show(boolean claims, int p) {
        calls++;
        return desk.show(claims, p);
    }

    int shown(int i) {
        calls++;
        return desk.shown(i);
    }

    /** Feeds the bytes; what fills the last twenty up is no blank, so that it would be seen if it were read. */
    void feed(byte[] text) {
        for (int i = 0; i < text.length; i += 20) {
            feed(word(text, i), word(text, i + 4), word(text, i + 8), word(text, i + 12), word(text, i + 16));
        }
    }

    private static int word(byte[] text, int from) {
        int word = 0;
        for (int k = from; k < from + 4; k++) {
            word = word << 8 | (k < text.length ? text[k] & 255 : '}');
        }
        return word;
    }

    void feed(String text) {
        feed(text.getBytes(StandardCharsets.ISO_8859_1));
    }

    int load(String text) {
        feed(text);
        return end(text.length());
    }

    String line(boolean claims, int p) {
        int bytes = show(claims, p);
        StringBuilder line = new StringBuilder();
        for (int i = 0; i < bytes; i++) {
            line.append((char) shown(i));
        }
        return line.toString();
    }

    /** All answers that there are to be had; calls that change something come last, and use the desk up. */
    List<String> everything() {
        List<String> all = new ArrayList<>();
        int shown = shown(0);
        for (int i = 1; shown != -1; i++) {
            all.add("shown " + shown);
            shown = shown(i);
        }
        all.add("told " + told(0) + " " + told(1) + " " + told(2));
        all.add(whereRunStands());
        int points = points();
        for (int p = 0; p < points; p++) {
            all.add("point " + p + knownAt(p, false) + knownAt(p, true));
        }
        all.add("inductive " + inductive() + " outside " + outside() + " unclaim " + unclaim());
        for (int steps = 0; steps < 6; steps++) {
            all.add("run " + run(steps) + " " + whereRunStands());
        }
        all.add("drop " + drop() + " feed " + feed(0, 0, 0, 0, 0));
        all.add("end " + end(17) + " points " + points() + " line " + line(false, 1));
        return all;
    }

    private String whereRunStands() {
        String ran = "ran " + ran(0) + " " + ran(1) + " " + ran(2);
        return ran + " values " + value(0) + " " + value(1) + " places " + place(0, 0) + " " + place(0, 1) + " " + place(1, 0);
    }

    private String knownAt(int p, boolean claims) {
        StringBuilder known = new StringBuilder();
        for (int what = claims ? 6 : 0; what < (claims ? 7 : 6); what++) {
            known.append(" ").append(point(p, what));
        }
        int numbers = point(p, 3);
        for (int x = 0; x < numbers; x++) {
            for (int y = x; y < numbers; y++) {
                known.append(" ").append(bound(claims, p, x, 1, y, 1)).append(" ").append(bound(claims, p, x, -1, y, -1));
                known.append(" ").append(bound(claims, p, x, 1, y, -1)).append(" ").append(bound(claims, p, x, -1, y, 1));
            }
        }
        for (int a = 0; a < point(p, 4); a++) {
            known.append(" ").append(range(claims, p, a, false)).append(" ").append(range(claims, p, a, true));
        }
        return known.toString();
    }
}
