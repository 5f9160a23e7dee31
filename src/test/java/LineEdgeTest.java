/** The paragraph of 'Terms' on what is PRINTED, and promises 21 and 22, at their edges. */
public final class LineEdgeTest {
    private static final Edge EDGE = new Edge("LineEdgeTest");
    private static final String PRINTED = "PRINTED";
    private static final int MIN = Integer.MIN_VALUE;
    private static final int MAX = Integer.MAX_VALUE;

    public static void main(String[] args) {
        nothing();
        all();
        numbers();
        lessThanBothAlone();
        orderOfPairs();
        arrays();
        sameNames();
        longLine();
        bytesOfLines();
        linesThatStay();
        refusedLines();
        bytesThatAreNot();
        EDGE.finish();
    }

    private static void nothing() {
        EDGE.terms(PRINTED, "what is known at a point is a line: nothing");
        EDGE.program("fun m(){var x=1/0;var t[2];x=x;}");
        EDGE.known(0, "all");
        EDGE.known(1, "nothing");
        EDGE.known(2, "nothing");
        EDGE.known(3, "nothing");
        EDGE.claimed(3, "nothing");
        EDGE.desk.claimNothing(0);
        EDGE.claimed(0, "nothing");
        EDGE.known(0, "all");
    }

    private static void all() {
        EDGE.terms(PRINTED, "Without numbers and arrays: all.");
        EDGE.fresh();
        EDGE.known(0, "all");
        EDGE.claimed(0, "all");
        EDGE.program("fun m(){if(1<2){var x;}else{var t[2];}}");
        EDGE.known(0, "all");
        EDGE.known(1, "all");
        EDGE.known(2, "nothing");
        EDGE.known(3, "all");
        EDGE.program("fun m(){var x;x=x;}");
        EDGE.known(1, "x in 0..0");
        EDGE.program("fun m(){var t[1];t[0]=0;}");
        EDGE.known(1, "t[] in 0..0");
    }

    private static void numbers() {
        EDGE.terms(PRINTED, "for each number, in the order of slots, NAME in A..B with its tight bounds");
        String[] sums = {"0", "-1", "9", "10", "-10", "99", "-100", "1000000000", "-1000000000", "2147483647", "-2147483647-1", "any",
            "any(-9,-8)", "any(-1,1)"};
        String[] ranges = {"0..0", "-1..-1", "9..9", "10..10", "-10..-10", "99..99", "-100..-100", "1000000000..1000000000",
            "-1000000000..-1000000000", "2147483647..2147483647", "-2147483648..-2147483648", "-2147483648..2147483647", "-9..-8", "-1..1"};
        for (int k = 0; k < sums.length; k++) {
            EDGE.program("fun m(){var x=" + sums[k] + ";x=x;}");
            EDGE.known(1, "x in " + ranges[k]);
        }
        EDGE.program("fun m(){var b=1;var a=2;var _9Z=3;var t[2];var abcdefghijklmnopqrstuvwxyz0123=4;a=a;}");
        EDGE.known(5, "b in 1..1, a in 2..2, _9Z in 3..3, abcdefghijklmnopqrstuvwxyz0123 in 4..4, t[] in 0..0");
    }

    private static void lessThanBothAlone() {
        EDGE.terms(PRINTED, "each only if C, the tight bound, is less than what the bounds of both alone come to");
        int[][] signs = {{1, 1, 20}, {1, -1, 10}, {-1, 1, 10}, {-1, -1, 0}};
        String[] lines = {"x + y <= 19", "x - y <= 9", "-x + y <= 9", "-x - y <= -1"};
        for (int k = 0; k < signs.length; k++) {
            EDGE.program("fun m(){var x=any(0,10);var y=any(0,10);x=x;}");
            EDGE.due("claim()", EDGE.desk.claim(2, 0, signs[k][0], 1, signs[k][1], signs[k][2]), 0);
            EDGE.claimed(2, "x in 0..10, y in 0..10");
            EDGE.due("claim()", EDGE.desk.claim(2, 0, signs[k][0], 1, signs[k][1], signs[k][2] - 1), 1);
            EDGE.claimed(2, "x in 0..10, y in 0..10, " + lines[k]);
        }
        // bounds of both alone are great, and those of two are greater than ints
        EDGE.program("fun m(){var x=any;var y=any;x=x;}");
        EDGE.due("claim()", EDGE.desk.claim(2, 0, 1, 1, 1, 4294967293L), 1);
        EDGE.due("claim()", EDGE.desk.claim(2, 0, 1, 1, -1, 4294967294L), 1);
        EDGE.due("claim()", EDGE.desk.claim(2, 0, -1, 1, 1, 4294967294L), 1);
        EDGE.due("claim()", EDGE.desk.claim(2, 0, -1, 1, -1, 4294967295L), 1);
        EDGE.claimed(2, "x in -2147483648..2147483647, y in -2147483648..2147483647, x + y <= 4294967293, x - y <= 4294967294, "
            + "-x + y <= 4294967294, -x - y <= 4294967295");
        // one of both alone: nothing is less for a single value
        EDGE.program("fun m(){var x=3;var y=x+4;x=x;}");
        EDGE.known(2, "x in 3..3, y in 7..7");
    }

    private static void orderOfPairs() {
        EDGE.terms(PRINTED, "for each two, the lesser slot first, in the order of the first one and then of the other one, NAME + NAME <= C, "
            + "NAME - NAME <= C, -NAME + NAME <= C, -NAME - NAME <= C");
        EDGE.program("fun m(){var z=any(0,9);var y=any(0,9);var x=any(0,9);x=x;}");
        for (int a = 2; a > 0; a--) {
            for (int b = a - 1; b >= 0; b--) {
                EDGE.due("claim()", EDGE.desk.claim(3, a, -1, b, -1, -1), 1);
                EDGE.due("claim()", EDGE.desk.claim(3, a, 1, b, -1, 8), 1);
                EDGE.due("claim()", EDGE.desk.claim(3, a, -1, b, 1, 8), 1);
                EDGE.due("claim()", EDGE.desk.claim(3, a, 1, b, 1, 17), 1);
            }
        }
        EDGE.claimed(3, "z in 0..9, y in 0..9, x in 0..9, z + y <= 17, z - y <= 8, -z + y <= 8, -z - y <= -1, z + x <= 17, z - x <= 8, "
            + "-z + x <= 8, -z - x <= -1, y + x <= 17, y - x <= 8, -y + x <= 8, -y - x <= -1");
    }

    private static void arrays() {
        EDGE.terms(PRINTED, "for each array NAME[] in A..B");
        EDGE.program("fun m(){var b[1];var x=1;var a[64];var y=x;a[63]=any;b[0]=-5;x=x;}");
        EDGE.known(4, "x in 1..1, y in 1..1, b[] in 0..0, a[] in 0..0");
        EDGE.known(6, "x in 1..1, y in 1..1, b[] in -5..-5, a[] in -2147483648..2147483647");
        // twelve numbers, the last two of them parameters, beside the names of arrays
        EDGE.program("fun g(k,l){k=l;}fun m(){var t[1];var u[1];var a;var b;var c;var d;var e;var f;var h;var i;var j;var w;g(3,4);}");
        EDGE.known(13, "a in 0..0, b in 0..0, c in 0..0, d in 0..0, e in 0..0, f in 0..0, h in 0..0, i in 0..0, j in 0..0, w in 0..0, "
            + "k in 3..3, l in 4..4, t[] in 0..0, u[] in 0..0");
        EDGE.program("fun m(){var a[1];var b[1];var c[1];var d[1];var e[1];var f[1];f[0]=1;f[0]=2;}");
        EDGE.known(7, "a[] in 0..0, b[] in 0..0, c[] in 0..0, d[] in 0..0, e[] in 0..0, f[] in 1..1");
    }

    private static void sameNames() {
        EDGE.terms(PRINTED, "(The same NAME may stand for several slots.)");
        EDGE.program("fun f(x){var t[1];x=x+1;}fun m(){var x=any(0,9);var t[2];if(1<2){var x=x;f(x);}}");
        EDGE.known(5, "x in 0..9, x in 0..9, x in 0..9, x - x <= 0, -x + x <= 0, x - x <= 0, -x + x <= 0, x - x <= 0, -x + x <= 0, "
            + "t[] in 0..0");
        EDGE.known(6, "x in 0..9, x in 0..9, x in 0..9, x - x <= 0, -x + x <= 0, x - x <= 0, -x + x <= 0, x - x <= 0, -x + x <= 0, "
            + "t[] in 0..0, t[] in 0..0");
    }

    /** Twelve numbers with names of thirty bytes, each one more than the one before, and six arrays. */
    private static void longLine() {
        EDGE.promise(21, "how many bytes it has");
        StringBuilder text = new StringBuilder("fun m(){");
        StringBuilder line = new StringBuilder();
        for (int k = 0; k < 12; k++) {
            text.append("var ").append(name(k)).append("=").append(k == 0 ? "any(0,9)" : name(0) + "+" + k).append(";");
            line.append(line.length() == 0 ? "" : ", ").append(name(k)).append(" in ").append(k).append("..").append(k + 9);
        }
        for (int k = 0; k < 12; k++) {
            for (int l = k + 1; l < 12; l++) {
                line.append(", ").append(name(k)).append(" - ").append(name(l)).append(" <= ").append(k - l);
                line.append(", -").append(name(k)).append(" + ").append(name(l)).append(" <= ").append(l - k);
            }
        }
        for (int k = 0; k < 6; k++) {
            text.append("var t").append(k).append("[1];");
            line.append(", t").append(k).append("[] in 0..0");
        }
        String program = text + name(0) + "=0;}";
        for (int from = 0; from < line.length(); from += 400) {
            EDGE.program(program);
            EDGE.due("show(false, 18)", EDGE.desk.show(false, 18), line.length());
            StringBuilder bytes = new StringBuilder();
            int to = Math.min(from + 400, line.length());
            for (int i = from; i < to; i++) {
                bytes.append((char) EDGE.desk.shown(i));
            }
            EDGE.due("bytes " + from + " to " + to, bytes.toString(), line.substring(from, to));
            EDGE.due("shown(" + line.length() + ")", EDGE.desk.shown(line.length()), -1);
        }
    }

    private static String name(int k) {
        return "abcdefghijklmnopqrstuvwxyz_9_" + (char) ('A' + k);
    }

    private static void bytesOfLines() {
        EDGE.promise(21, "A line for what is known at a point (or, if claims, for the claim there): how many bytes it has");
        EDGE.program("fun m(){var x=any(0,9);x=x;}");
        EDGE.due("show(false, 0)", EDGE.desk.show(false, 0), 3);
        EDGE.due("show(false, 1)", EDGE.desk.show(false, 1), 9);
        EDGE.due("show(true, 1)", EDGE.desk.show(true, 1), 9);
        EDGE.desk.claim(1, 0, -1, 0, -1, -5);
        EDGE.due("show(true, 1)", EDGE.desk.show(true, 1), 9);
        EDGE.due("shown(5)", EDGE.desk.shown(5), '5');
        EDGE.due("show(false, 1)", EDGE.desk.show(false, 1), 9);
        EDGE.due("shown(5)", EDGE.desk.shown(5), '0');
        EDGE.desk.claimNothing(1);
        EDGE.due("show(true, 1)", EDGE.desk.show(true, 1), 7);
        EDGE.due("show(false, 2)", EDGE.desk.show(false, 2), 3);
    }

    private static void linesThatStay() {
        EDGE.promise(21, "(it stays until the next one is written, whatever is called)");
        EDGE.program("fun m(){var x=any(0,9);x=x;}");
        String line = EDGE.desk.line(false, 1);
        EDGE.due("the line", line, "x in 0..9");
        EDGE.desk.claimNothing(1);
        EDGE.desk.unclaim();
        EDGE.desk.inductive();
        EDGE.desk.input(5);
        EDGE.desk.run(5);
        EDGE.desk.drop();
        EDGE.desk.bound(false, 1, 0, 1, 0, 1);
        EDGE.desk.load("fun m(){var yy=any(-9,0);yy=yy;}");
        EDGE.desk.load("fun m(){");
        EDGE.desk.load("fun m(){y=1;}");
        EDGE.desk.load(Edge.tooMuch());
        for (int i = 0; i < line.length(); i++) {
            EDGE.due("shown(" + i + ")", EDGE.desk.shown(i), line.charAt(i));
        }
        EDGE.due("shown(" + line.length() + ")", EDGE.desk.shown(line.length()), -1);
        EDGE.due("show(false, 0)", EDGE.desk.show(false, 0), 7);
        EDGE.due("shown(0)", EDGE.desk.shown(0), 'n');
        EDGE.due("shown(7), the line before having been longer", EDGE.desk.shown(7), -1);
        EDGE.due("shown(8), the line before having been longer", EDGE.desk.shown(8), -1);
    }

    private static void refusedLines() {
        EDGE.promise(21, "NONE, the line staying as it is, when there is no such point.");
        for (int p : new int[] {-1, 6, 7, 250, MIN, MAX}) {
            EDGE.refused("show(false, " + p + ")", desk -> desk.show(false, p), -1);
            EDGE.refused("show(true, " + p + ")", desk -> desk.show(true, p), -1);
            EDGE.refused("show(false, " + p + ") without a line", desk -> desk.show(false, p), -1, desk -> desk.load("fun m(){}"));
        }
        EDGE.fresh();
        Edge.fill(EDGE.desk);
        EDGE.due("show(false, 5), the last point", EDGE.desk.show(false, 5), 3);
    }

    private static void bytesThatAreNot() {
        EDGE.promise(22, "Byte i of the line; NONE when there is none.");
        EDGE.fresh();
        for (int i : new int[] {MIN, -1, 0, 1, MAX}) {
            EDGE.due("shown(" + i + ") without a line", EDGE.desk.shown(i), -1);
        }
        EDGE.due("show(false, 0)", EDGE.desk.show(false, 0), 3);
        EDGE.due("shown(0)", EDGE.desk.shown(0), 'a');
        EDGE.due("shown(1)", EDGE.desk.shown(1), 'l');
        EDGE.due("shown(2)", EDGE.desk.shown(2), 'l');
        for (int i : new int[] {MIN, -2, -1, 3, 4, 63, 64, 65, MAX}) {
            EDGE.due("shown(" + i + ")", EDGE.desk.shown(i), -1);
        }
        EDGE.refused("shown(-1)", desk -> desk.shown(-1), -1);
        EDGE.refused("shown(500)", desk -> desk.shown(500), -1);
    }
}
