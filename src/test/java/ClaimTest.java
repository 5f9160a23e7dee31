import java.util.Random;

/** Promises 9 to 13: claims, and whether they are inductive. */
public final class ClaimTest {
    private static final Trial TRIAL = new Trial("ClaimTest");

    public static void main(String[] args) {
        claims();
        refused();
        rangesOfArrays();
        nothing();
        unclaiming();
        inductive();
        inductiveByKinds();
        tooMuch();
        allBoundsByAllValues();
        TRIAL.finish();
    }

    private static void claim(int p, int x, int s, int y, int t, long c, int want) {
        String call = "claim(" + p + ", " + x + ", " + s + ", " + y + ", " + t + ", " + c + ")";
        TRIAL.due(call, TRIAL.desk.claim(p, x, s, y, t, c), want);
    }

    private static void inductiveIs(int want) {
        TRIAL.due("inductive()", TRIAL.desk.inductive(), want);
    }

    private static void claims() {
        TRIAL.program("fun m(){var x=any(0,10);var y=any(0,10);assert(x>=0);}");
        claim(2, 0, 1, 0, 1, 10, 0);
        claim(2, 0, 1, 0, 1, Long.MAX_VALUE, 0);
        claim(2, 0, 1, 0, 1, 8, 1);
        claim(2, 0, 1, 0, 1, 8, 0);
        TRIAL.claimed(2, "x in 0..8, y in 0..10");
        TRIAL.known(2, "x in 0..10, y in 0..10");
        claim(2, 0, -1, 0, -1, -2, 1);
        claim(2, 0, 1, 1, 1, 18, 0);
        claim(2, 0, 1, 1, 1, 7, 1);
        TRIAL.claimed(2, "x in 2..7, y in 0..5, x + y <= 7");
        claim(2, 1, 1, 0, 1, 7, 0);
        claim(2, 1, -1, 0, 1, 4, 1);
        TRIAL.claimed(2, "x in 2..5, y in 0..5, x + y <= 7, x - y <= 4");
        claim(2, 1, -1, 0, 1, 4, 0);
        claim(2, 0, -1, 1, -1, -7, 1);
        claim(2, 0, 1, 1, -1, 0, 1);
        TRIAL.claimed(2, "x in 2..3, y in 4..5, x + y <= 7, -x - y <= -7");
        TRIAL.due("bound of the claim", TRIAL.desk.bound(true, 2, 0, 1, 1, -1), -1);
        TRIAL.due("bound by the analysis", TRIAL.desk.bound(false, 2, 0, 1, 1, -1), 10);
        claim(2, 0, 1, 1, 1, 6, 1);
        TRIAL.due("point(2, 6)", TRIAL.desk.point(2, 6), 0);
        TRIAL.due("point(2, 5)", TRIAL.desk.point(2, 5), 1);
        TRIAL.claimed(2, "nothing");
        TRIAL.due("bound of no claim", TRIAL.desk.bound(true, 2, 0, 1, 1, -1), -(1L << 40));
        claim(2, 0, 1, 1, 1, -100, 0);
        claim(1, 0, 1, 0, 1, Long.MIN_VALUE, 1);
        TRIAL.due("point(1, 6)", TRIAL.desk.point(1, 6), 0);
        TRIAL.program("fun m(){var x=any;var y=any;x=0;}");
        claim(2, 0, -1, 1, -1, Long.MIN_VALUE, 1);
        TRIAL.claimed(2, "nothing");
        TRIAL.program("fun m(){var x=any(0,10);var y=x+any(0,1);x=0;}");
        claim(2, 0, 1, 1, 1, 7, 1);
        claim(2, 0, -1, 1, 1, 0, 1);
        TRIAL.claimed(2, "x in 0..3, y in 0..3, x - y <= 0, -x + y <= 0");
    }

    private static void refused() {
        TRIAL.program("fun m(){var x=any(0,10);var y=any(0,10);x=1;}");
        claim(-1, 0, 1, 0, 1, 0, -1);
        claim(4, 0, 1, 0, 1, 0, -1);
        claim(3, 0, 1, 0, 1, 0, -1);
        claim(0, 0, 1, 0, 1, 0, -1);
        claim(1, 1, 1, 1, 1, 0, -1);
        claim(1, 0, 1, 1, 1, 0, -1);
        claim(2, 2, 1, 0, 1, 0, -1);
        claim(2, -1, 1, 0, 1, 0, -1);
        claim(2, 0, 1, 2, 1, 0, -1);
        claim(2, 0, 1, -1, 1, 0, -1);
        claim(2, 0, 0, 1, 1, 0, -1);
        claim(2, 0, 2, 1, 1, 0, -1);
        claim(2, 0, 1, 1, 0, 0, -1);
        claim(2, 0, 1, 1, -2, 0, -1);
        claim(2, 0, 1, 0, -1, 0, -1);
        claim(2, 0, -1, 0, 1, 0, -1);
        TRIAL.due("unclaim()", TRIAL.desk.unclaim(), 0);
    }

    private static void claimRange(int p, int a, boolean above, int c, int want) {
        TRIAL.due("claimRange(" + p + ", " + a + ", " + above + ", " + c + ")", TRIAL.desk.claimRange(p, a, above, c), want);
    }

    private static void rangesOfArrays() {
        TRIAL.program("fun m(){var t[3];t[any(0,2)]=any(-5,9);t[1]=0;}");
        claimRange(2, 0, true, 9, 0);
        claimRange(2, 0, true, Integer.MAX_VALUE, 0);
        claimRange(2, 0, false, -5, 0);
        claimRange(2, 0, true, 7, 1);
        claimRange(2, 0, true, 7, 0);
        claimRange(2, 0, false, 7, 1);
        TRIAL.claimed(2, "t[] in 7..7");
        TRIAL.known(2, "t[] in -5..9");
        TRIAL.due("range of the claim", TRIAL.desk.range(true, 2, 0, false), 7);
        TRIAL.due("range by the analysis", TRIAL.desk.range(false, 2, 0, false), -5);
        claimRange(2, 0, false, 8, 1);
        TRIAL.claimed(2, "nothing");
        TRIAL.due("range of no claim", TRIAL.desk.range(true, 2, 0, true), -(1L << 40));
        claimRange(2, 0, true, -100, 0);
        claimRange(2, 1, true, 0, -1);
        claimRange(2, -1, true, 0, -1);
        claimRange(0, 0, true, 0, -1);
        claimRange(3, 0, true, 0, -1);
        claimRange(4, 0, true, 0, -1);
        claimRange(-1, 0, false, 0, -1);
        TRIAL.due("unclaim()", TRIAL.desk.unclaim(), 1);
        TRIAL.claimed(2, "t[] in -5..9");
    }

    private static void nothing() {
        TRIAL.program("fun m(){var x=1/0;x=2;}");
        TRIAL.due("claimNothing(0)", TRIAL.desk.claimNothing(0), 1);
        TRIAL.due("claimNothing(0)", TRIAL.desk.claimNothing(0), 0);
        TRIAL.due("claimNothing(1)", TRIAL.desk.claimNothing(1), 0);
        TRIAL.due("claimNothing(2)", TRIAL.desk.claimNothing(2), 0);
        TRIAL.due("claimNothing(3)", TRIAL.desk.claimNothing(3), -1);
        TRIAL.due("claimNothing(-1)", TRIAL.desk.claimNothing(-1), -1);
        claim(1, 0, 1, 0, 1, -5, 0);
        claim(1, 1, 1, 1, 1, -5, -1);
    }

    private static void unclaiming() {
        TRIAL.program("fun m(){var x=any(0,10);x=x+1;x=x+1;x=x+1;}");
        TRIAL.due("unclaim()", TRIAL.desk.unclaim(), 0);
        claim(1, 0, 1, 0, 1, 5, 1);
        claim(1, 0, 1, 0, 1, 4, 1);
        claim(2, 0, 1, 0, 1, 11, 0);
        TRIAL.due("claimNothing(3)", TRIAL.desk.claimNothing(3), 1);
        TRIAL.due("claimNothing(4)", TRIAL.desk.claimNothing(4), 1);
        TRIAL.due("unclaim()", TRIAL.desk.unclaim(), 3);
        TRIAL.due("unclaim()", TRIAL.desk.unclaim(), 0);
        TRIAL.claimed(1, "x in 0..10");
        TRIAL.claimed(3, "x in 2..12");
        inductiveIs(-1);
        claim(1, 0, 1, 0, 1, 5, 1);
        TRIAL.load("fun m(){var x=any(0,9);x=1;}");
        TRIAL.claimed(1, "x in 0..9");
        TRIAL.due("unclaim()", TRIAL.desk.unclaim(), 0);
    }

    private static void inductive() {
        TRIAL.fresh();
        inductiveIs(-1);
        TRIAL.desk.claimNothing(0);
        inductiveIs(-2);
        TRIAL.program("fun m(){var x=5;x=x+1;x=x+1;}");
        inductiveIs(-1);
        claim(1, 0, 1, 0, 1, 4, 1);
        inductiveIs(0);
        TRIAL.due("unclaim()", TRIAL.desk.unclaim(), 1);
        inductiveIs(-1);
        TRIAL.desk.claimNothing(2);
        inductiveIs(1);
        TRIAL.load("fun m(){var x=5;x=x+1;x=x+1;}");
        inductiveIs(-1);
        claim(1, 0, 1, 0, 1, 4, 1);
        inductiveIs(0);
        TRIAL.desk.claimNothing(0);
        inductiveIs(-2);
        TRIAL.desk.unclaim();
        TRIAL.desk.claimNothing(2);
        inductiveIs(1);
        TRIAL.desk.claimNothing(1);
        inductiveIs(0);
        TRIAL.desk.unclaim();
        TRIAL.desk.claimNothing(3);
        inductiveIs(2);
        // what the analysis lost and a claim brings back
        TRIAL.program("fun m(){var i=10;while(i!=0){i=i-1;}i=0;}");
        TRIAL.claimed(1, "i in -2147483648..10");
        claim(1, 0, -1, 0, -1, 0, 1);
        inductiveIs(2);
        claim(2, 0, -1, 0, -1, -1, 1);
        inductiveIs(-1);
        TRIAL.due("run", TRIAL.desk.run(2000), 0);
        TRIAL.due("outside()", TRIAL.desk.outside(), 0);
        claim(2, 0, -1, 0, -1, -2, 1);
        inductiveIs(1);
        TRIAL.due("run", TRIAL.desk.run(2000), 0);
        TRIAL.due("outside()", TRIAL.desk.outside(), 0);
        TRIAL.desk.unclaim();
        claim(1, 0, -1, 0, -1, -1, 1);
        claim(2, 0, -1, 0, -1, -1, 1);
        inductiveIs(2);
    }

    /** Each statement leads to a claim that nothing more is in than what comes there. */
    private static void inductiveByKinds() {
        String text = "fun f(a){a=a+1;return a;}fun m(){var x=any(0,3);var t[2];x=f(x);f(x);if(x<2){t[0]=x;}else{t[1]=7;}"
            + "while(x<9){var y=x;x=x+1;}assert(x==9);}";
        int[][] leads = {{0, 1}, {1, 2}, {2, 3}, {3, 4}, {4, 5}, {5, 6}, {6, 7}, {7, 8}, {8, 9}, {8, 10}, {9, 11}, {10, 11},
            {11, 12}, {11, 14}, {12, 13}, {13, 11}, {14, 15}};
        int last = 15;
        for (int p = 1; p <= last; p++) {
            TRIAL.program(text);
            TRIAL.due("points()", TRIAL.desk.points(), last + 1);
            TRIAL.due("claimNothing(" + p + ")", TRIAL.desk.claimNothing(p), 1);
            int first = last;
            for (int[] lead : leads) {
                if (lead[1] == p) {
                    first = Math.min(first, lead[0]);
                }
            }
            inductiveIs(first);
        }
        // what ends a BLOCK leads to where the run goes on, slots that end being left out
        TRIAL.program("fun f(a){}fun m(){var x=any(0,9);f(x);if(x<5){var y=3;}else{}while(x<9){x=x+1;var z=x;}x=0;}");
        inductiveIs(-1);
        TRIAL.due("claimNothing(2)", TRIAL.desk.claimNothing(2), 1);
        inductiveIs(1);
        TRIAL.desk.unclaim();
        claim(4, 0, 1, 0, 1, 8, 1);
        inductiveIs(2);
        TRIAL.desk.unclaim();
        claim(4, 0, -1, 0, -1, -1, 1);
        inductiveIs(3);
        TRIAL.desk.unclaim();
        claim(7, 0, 1, 0, 1, 8, 1);
        inductiveIs(4);
        TRIAL.program("fun m(){var x=any(0,9);while(x<5){}x=0;}");
        inductiveIs(-1);
        claim(1, 0, -1, 0, -1, -1, 1);
        inductiveIs(0);
        TRIAL.program("fun m(){var t[2];if(any<0){t[0]=5;}t[1]=2;}");
        TRIAL.due("claimRange(3, 0, true, 4)", TRIAL.desk.claimRange(3, 0, true, 4), 1);
        inductiveIs(2);
        TRIAL.desk.unclaim();
        TRIAL.due("claimRange(3, 0, false, 1)", TRIAL.desk.claimRange(3, 0, false, 1), 1);
        inductiveIs(1);
        TRIAL.program("fun m(){var x=any(0,9);if(x<5){x=1;}x=2;}");
        TRIAL.due("alarms stay", TRIAL.desk.point(0, 2), 0);
        claim(1, 0, 1, 0, 1, 4, 1);
        inductiveIs(0);
        TRIAL.desk.unclaim();
        claim(3, 0, 1, 0, 1, 8, 1);
        inductiveIs(1);
    }

    private static void tooMuch() {
        TRIAL.fresh();
        String text = "fun m(){var a=any;var t[2];" + "while(a<any){a=a+1;".repeat(12) + "}".repeat(13);
        TRIAL.due("end()", TRIAL.load(text), 3);
        inductiveIs(-3);
        claim(2, 0, 1, 0, 1, 0, 0);
        claim(2, 1, 1, 1, 1, 0, -1);
        claimRange(2, 0, true, 0, 0);
        claimRange(2, 1, true, 0, -1);
        TRIAL.due("claimNothing(0)", TRIAL.desk.claimNothing(0), 0);
        TRIAL.due("claimNothing(99)", TRIAL.desk.claimNothing(99), -1);
        TRIAL.due("unclaim()", TRIAL.desk.unclaim(), 0);
        inductiveIs(-3);
    }

    /** Random claims on three numbers in a small box, against all ints in it, one by one. */
    private static void allBoundsByAllValues() {
        Random random = new Random(7);
        for (int round = 0; round < 150; round++) {
            TRIAL.program("fun m(){var x=any(-4,4);var y=any(-4,4);var z=any(-4,4);x=0;}");
            boolean[] in = new boolean[729];
            java.util.Arrays.fill(in, true);
            for (int k = 0; k < 8; k++) {
                int x = random.nextInt(3);
                int y = random.nextInt(3);
                int s = random.nextBoolean() ? 1 : -1;
                int t = x == y ? s : random.nextBoolean() ? 1 : -1;
                long c = random.nextInt(9) - 3;
                boolean less = false;
                for (int v = 0; v < in.length; v++) {
                    if (in[v] && sum(v, x, s, y, t) > c) {
                        in[v] = false;
                        less = true;
                    }
                }
                claim(3, x, s, y, t, c, less ? 1 : 0);
                allBounds(in);
            }
        }
    }

    private static long sum(int v, int x, int s, int y, int t) {
        int[] values = {v % 9 - 4, v / 9 % 9 - 4, v / 81 - 4};
        return x == y ? s * values[x] : s * values[x] + t * values[y];
    }

    private static void allBounds(boolean[] in) {
        for (int x = 0; x < 3; x++) {
            for (int y = 0; y < 3; y++) {
                for (int signs = 0; signs < 4; signs++) {
                    int s = signs / 2 == 0 ? 1 : -1;
                    int t = signs % 2 == 0 ? 1 : -1;
                    long most = -(1L << 40);
                    for (int v = 0; v < in.length; v++) {
                        if (in[v] && (x != y || s == t)) {
                            most = Math.max(most, sum(v, x, s, y, t));
                        }
                    }
                    String call = "bound(true, 3, " + x + ", " + s + ", " + y + ", " + t + ")";
                    TRIAL.due(call, TRIAL.desk.bound(true, 3, x, s, y, t), most);
                }
            }
        }
    }
}
