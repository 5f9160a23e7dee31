/** The paragraph of 'Terms' on CLAIMS, and promises 7 to 13, at their edges. */
public final class ClaimEdgeTest {
    private static final Edge EDGE = new Edge("ClaimEdgeTest");
    private static final String CLAIMS = "CLAIMS are";
    private static final long NO_BOUND = -1099511627776L;
    private static final int MIN = Integer.MIN_VALUE;
    private static final int MAX = Integer.MAX_VALUE;
    private static final int[] FAR = {MIN, MIN + 1, MAX, 1 << 20};
    /** As many arrays as there can be. */
    private static final String SIX = "fun m(){var a[1];var b[2];var c[64];var d[1];var e[1];var f[2];a[0]=any;b[1]=any(3,4);f[0]=-7;f[0]=0;}";

    public static void main(String[] args) {
        boundsOfSlots();
        boundsOfNoSlots();
        boundsOfOtherSigns();
        boundsOfNothing();
        rangesOfArrays();
        rangesOfNoArrays();
        claimsThatMakeLess();
        claimsOfTheSameSet();
        claimsThatLeaveNothing();
        claimsOfFarBounds();
        claimsOfNothing();
        refusedClaims();
        claimsOfRanges();
        claimsOfEachRange();
        emptyRanges();
        refusedClaimsOfRanges();
        nothingIsClaimed();
        refusedClaimsOfNothing();
        unclaiming();
        claimsBehindTooMuch();
        asAnalysed();
        theBeginning();
        beginningInPointZero();
        firstPointThatLeads();
        exactlyWhatIsKnownBehind();
        pointsThatCanBeNext();
        whilesToThemselves();
        endsOfBlocks();
        slotsThatEnd();
        askedFirst();
        EDGE.finish();
    }

    private static void bound(boolean claims, int p, int x, int s, int y, int t, long want) {
        String call = "bound(" + claims + ", " + p + ", " + x + ", " + s + ", " + y + ", " + t + ")";
        EDGE.due(call, EDGE.desk.bound(claims, p, x, s, y, t), want);
    }

    private static void claim(int p, int x, int s, int y, int t, long c, int want) {
        String call = "claim(" + p + ", " + x + ", " + s + ", " + y + ", " + t + ", " + c + ")";
        EDGE.due(call, EDGE.desk.claim(p, x, s, y, t, c), want);
    }

    private static void claimRange(int p, int a, boolean above, int c, int want) {
        EDGE.due("claimRange(" + p + ", " + a + ", " + above + ", " + c + ")", EDGE.desk.claimRange(p, a, above, c), want);
    }

    private static void inductive(int want) {
        EDGE.due("inductive()", EDGE.desk.inductive(), want);
    }

    private static String twelve(String rest) {
        StringBuilder text = new StringBuilder("fun m(){");
        for (int k = 0; k < 12; k++) {
            text.append("var n").append(k).append("=any(").append(k).append(",").append(2 * k).append(");");
        }
        return text + rest + "}";
    }

    private static void boundsOfSlots() {
        EDGE.promise(7, "The tight bound of what is known by the analysis at a point (or, if claims, of the claim there) of: s * x + t * y for "
            + "slots x and y that differ, s and t being 1 or -1; of s * x for x = y and s = t.");
        EDGE.program(twelve("n0=0;"));
        for (int x = 0; x < 12; x++) {
            bound(false, 12, x, 1, x, 1, 2 * x);
            bound(true, 12, x, -1, x, -1, -x);
        }
        bound(false, 12, 11, 1, 10, 1, 42);
        bound(false, 12, 11, 1, 0, -1, 22);
        bound(false, 12, 0, -1, 11, 1, 22);
        bound(false, 12, 10, -1, 11, -1, -21);
        EDGE.program("fun m(){var x=any(0,9);var y=x+any(0,2);x=x;}");
        bound(false, 2, 0, 1, 1, -1, 0);
        bound(false, 2, 1, -1, 0, 1, 0);
        bound(false, 2, 0, -1, 1, 1, 2);
        bound(false, 2, 1, 1, 0, -1, 2);
        bound(false, 2, 0, 1, 1, 1, 20);
        bound(false, 2, 1, -1, 0, -1, 0);
        claim(2, 1, 1, 1, 1, 5, 1);
        bound(false, 2, 1, 1, 1, 1, 11);
        bound(true, 2, 1, 1, 1, 1, 5);
        bound(false, 2, 0, 1, 1, 1, 20);
        bound(true, 2, 0, 1, 1, 1, 10);
        bound(true, 2, 0, 1, 0, 1, 5);
    }

    private static void boundsOfNoSlots() {
        EDGE.promise(7, "-2^40 when there is no such point or slot, other signs, or there is nothing.");
        EDGE.program("fun m(){var x=any;var y=any;x=x;}");
        for (int claims = 0; claims < 2; claims++) {
            boolean by = claims == 1;
            bound(by, -1, 0, 1, 0, 1, NO_BOUND);
            bound(by, 0, 0, 1, 0, 1, NO_BOUND);
            bound(by, 1, 0, 1, 0, 1, 2147483647L);
            bound(by, 1, 1, 1, 1, 1, NO_BOUND);
            bound(by, 1, 0, 1, 1, 1, NO_BOUND);
            bound(by, 1, 1, 1, 0, 1, NO_BOUND);
            bound(by, 2, 0, -1, 1, -1, 4294967296L);
            bound(by, 2, 2, 1, 0, 1, NO_BOUND);
            bound(by, 2, 0, 1, 2, 1, NO_BOUND);
            bound(by, 2, 2, 1, 2, 1, NO_BOUND);
            bound(by, 2, -1, 1, 0, 1, NO_BOUND);
            bound(by, 2, 0, 1, -1, 1, NO_BOUND);
            bound(by, 2, -1, 1, -1, 1, NO_BOUND);
            bound(by, 3, 0, 1, 0, 1, NO_BOUND);
            bound(by, 4, 0, 1, 0, 1, NO_BOUND);
            for (int far : FAR) {
                bound(by, far, 0, 1, 0, 1, NO_BOUND);
                bound(by, 2, far, 1, 0, 1, NO_BOUND);
                bound(by, 2, 0, 1, far, 1, NO_BOUND);
                bound(by, 2, far, 1, far, 1, NO_BOUND);
            }
        }
        EDGE.program(twelve("n0=0;"));
        bound(false, 12, 12, 1, 12, 1, NO_BOUND);
        bound(false, 12, 11, 1, 12, 1, NO_BOUND);
        EDGE.refused("bound(false, 6, 0, 1, 0, 1)", desk -> desk.bound(false, 6, 0, 1, 0, 1), NO_BOUND);
        EDGE.refused("bound(true, 3, 1, 1, 0, 1)", desk -> desk.bound(true, 3, 1, 1, 0, 1), NO_BOUND);
    }

    private static void boundsOfOtherSigns() {
        EDGE.promise(7, "-2^40 when there is no such point or slot, other signs, or there is nothing.");
        EDGE.program("fun m(){var x=any;var y=any;x=x;}");
        bound(false, 2, 0, 1, 0, -1, NO_BOUND);
        bound(false, 2, 0, -1, 0, 1, NO_BOUND);
        for (int other : new int[] {0, 2, -2, 3, MIN, MAX, MIN + 1}) {
            bound(false, 2, 0, other, 1, 1, NO_BOUND);
            bound(false, 2, 0, 1, 1, other, NO_BOUND);
            bound(false, 2, 0, other, 1, other, NO_BOUND);
            bound(false, 2, 0, other, 0, other, NO_BOUND);
            bound(true, 2, 0, -1, 1, other, NO_BOUND);
        }
    }

    private static void boundsOfNothing() {
        EDGE.promise(7, "-2^40 when there is no such point or slot, other signs, or there is nothing.");
        EDGE.program("fun m(){var x=1;var t[2];x=1/0;x=2;}");
        bound(false, 2, 0, 1, 0, 1, 1);
        bound(false, 3, 0, 1, 0, 1, NO_BOUND);
        bound(true, 3, 0, 1, 0, 1, NO_BOUND);
        EDGE.due("range(false, 3, 0, true)", EDGE.desk.range(false, 3, 0, true), NO_BOUND);
        EDGE.due("claimNothing(2)", EDGE.desk.claimNothing(2), 1);
        bound(false, 2, 0, 1, 0, 1, 1);
        bound(true, 2, 0, 1, 0, 1, NO_BOUND);
        EDGE.due("range(true, 2, 0, true)", EDGE.desk.range(true, 2, 0, true), NO_BOUND);
        EDGE.due("range(false, 2, 0, true)", EDGE.desk.range(false, 2, 0, true), 0);
    }

    private static void range(boolean claims, int p, int a, long least, long greatest) {
        EDGE.due("range(" + claims + ", " + p + ", " + a + ", false)", EDGE.desk.range(claims, p, a, false), least);
        EDGE.due("range(" + claims + ", " + p + ", " + a + ", true)", EDGE.desk.range(claims, p, a, true), greatest);
    }

    private static void rangesOfArrays() {
        EDGE.promise(8, "Likewise the range of an array: its least one, or its greatest one.");
        EDGE.program(SIX);
        range(false, 9, 0, -2147483648L, 2147483647L);
        range(false, 9, 1, 0, 4);
        range(false, 9, 2, 0, 0);
        range(false, 9, 5, -7, 0);
        range(true, 9, 5, -7, 0);
        claimRange(9, 5, false, -6, 1);
        range(false, 9, 5, -7, 0);
        range(true, 9, 5, -6, 0);
    }

    private static void rangesOfNoArrays() {
        EDGE.promise(8, "Likewise the range of an array: its least one, or its greatest one.");
        EDGE.program(SIX);
        for (int claims = 0; claims < 2; claims++) {
            boolean by = claims == 1;
            range(by, -1, 0, NO_BOUND, NO_BOUND);
            range(by, 0, 0, NO_BOUND, NO_BOUND);
            range(by, 1, 0, 0, 0);
            range(by, 1, 1, NO_BOUND, NO_BOUND);
            range(by, 9, -1, NO_BOUND, NO_BOUND);
            range(by, 9, 6, NO_BOUND, NO_BOUND);
            range(by, 10, 0, NO_BOUND, NO_BOUND);
            range(by, 11, 0, NO_BOUND, NO_BOUND);
            for (int far : FAR) {
                range(by, far, 0, NO_BOUND, NO_BOUND);
                range(by, 9, far, NO_BOUND, NO_BOUND);
            }
        }
        EDGE.program("fun m(){var x=1;x=2;}");
        range(false, 1, 0, NO_BOUND, NO_BOUND);
        EDGE.refused("range(false, 3, 1, true)", desk -> desk.range(false, 3, 1, true), NO_BOUND);
    }

    private static void claimsThatMakeLess() {
        EDGE.promise(9, "The claim at a point is made less: s * x + t * y (s * x for x = y and s = t) is c at most.");
        EDGE.program("fun m(){var x=any(0,10);var y=any(0,10);x=x;}");
        claim(2, 0, 1, 0, 1, 9, 1);
        EDGE.claimed(2, "x in 0..9, y in 0..10");
        claim(2, 0, -1, 0, -1, -1, 1);
        EDGE.claimed(2, "x in 1..9, y in 0..10");
        claim(2, 0, 1, 1, 1, 18, 1);
        EDGE.claimed(2, "x in 1..9, y in 0..10, x + y <= 18");
        claim(2, 1, -1, 0, 1, 8, 1);
        EDGE.claimed(2, "x in 1..9, y in 0..10, x + y <= 18, x - y <= 8");
        claim(2, 0, -1, 1, 1, 8, 1);
        EDGE.claimed(2, "x in 1..9, y in 0..10, x + y <= 18, x - y <= 8, -x + y <= 8");
        claim(2, 1, -1, 0, -1, -2, 1);
        EDGE.claimed(2, "x in 1..9, y in 0..10, x + y <= 18, x - y <= 8, -x + y <= 8, -x - y <= -2");
        EDGE.known(2, "x in 0..10, y in 0..10");
        EDGE.due("unclaim()", EDGE.desk.unclaim(), 1);
    }

    private static void claimsOfTheSameSet() {
        EDGE.promise(9, "1 if the set is less by this, 0 if it is the same");
        EDGE.program("fun m(){var x=any(0,10);var y=any(0,10);x=x;}");
        int[][] bounds = {{0, 1, 0, 1, 10}, {0, -1, 0, -1, 0}, {0, 1, 1, 1, 20}, {0, 1, 1, -1, 10}, {1, 1, 0, -1, 10}, {1, -1, 0, -1, 0}};
        for (int[] b : bounds) {
            claim(2, b[0], b[1], b[2], b[3], b[4] + 1, 0);
            claim(2, b[0], b[1], b[2], b[3], b[4], 0);
            claim(2, b[0], b[1], b[2], b[3], b[4] - 1, 1);
            claim(2, b[0], b[1], b[2], b[3], b[4] - 1, 0);
            EDGE.due("unclaim()", EDGE.desk.unclaim(), 1);
        }
        // x + y is even where x = y, so that 7 at most is 6 at most
        claim(2, 0, 1, 1, -1, 0, 1);
        claim(2, 1, 1, 0, -1, 0, 1);
        claim(2, 0, 1, 1, 1, 7, 1);
        claim(2, 0, 1, 1, 1, 6, 0);
        claim(2, 0, 1, 0, 1, 3, 0);
        claim(2, 1, 1, 1, 1, 3, 0);
        claim(2, 1, 1, 1, 1, 2, 1);
        EDGE.claimed(2, "x in 0..2, y in 0..2, x - y <= 0, -x + y <= 0");
    }

    private static void claimsThatLeaveNothing() {
        EDGE.promise(9, "1 if the set is less by this, 0 if it is the same (also when nothing is claimed");
        EDGE.program("fun m(){var x=any(3,10);var y=any(3,10);x=x;}");
        claim(2, 0, 1, 0, 1, 3, 1);
        EDGE.claimed(2, "x in 3..3, y in 3..10");
        claim(2, 0, 1, 0, 1, 2, 1);
        EDGE.claimed(2, "nothing");
        claim(2, 0, 1, 0, 1, 1, 0);
        claim(2, 0, 1, 0, 1, 100, 0);
        claim(2, 1, -1, 0, 1, -100, 0);
        EDGE.due("point(2, 6)", EDGE.desk.point(2, 6), 0);
        EDGE.due("point(2, 5)", EDGE.desk.point(2, 5), 1);
        EDGE.due("unclaim()", EDGE.desk.unclaim(), 1);
        claim(2, 0, -1, 1, -1, -20, 1);
        EDGE.claimed(2, "x in 10..10, y in 10..10");
        claim(2, 0, -1, 1, -1, -21, 1);
        EDGE.claimed(2, "nothing");
        EDGE.desk.unclaim();
        // x = y and x + y odd: no bound of one alone is without a value, but all of them are
        claim(2, 0, 1, 1, -1, 0, 1);
        claim(2, 0, -1, 1, 1, 0, 1);
        claim(2, 0, 1, 1, 1, 7, 1);
        claim(2, 0, -1, 1, -1, -7, 1);
        EDGE.claimed(2, "nothing");
        EDGE.desk.unclaim();
        claim(2, 0, 1, 1, -1, -1, 1);
        claim(2, 0, -1, 1, 1, 0, 1);
        EDGE.claimed(2, "nothing");
    }

    private static void claimsOfFarBounds() {
        EDGE.promise(9, "1 if the set is less by this, 0 if it is the same");
        long[] far = {Long.MAX_VALUE, Long.MAX_VALUE / 2, 1L << 62, 1L << 40, 4294967297L, 4294967296L};
        for (long c : far) {
            for (int signs = 0; signs < 4; signs++) {
                EDGE.program("fun m(){var x=any;var y=any;x=x;}");
                int s = signs / 2 == 0 ? 1 : -1;
                int t = signs % 2 == 0 ? 1 : -1;
                claim(2, 0, s, 1, t, c, 0);
                claim(2, 0, s, 0, s, c, 0);
                EDGE.due("unclaim()", EDGE.desk.unclaim(), 0);
                claim(2, 0, s, 1, t, -c, 1);
                // -2^32 is the least value of x + y, and less than any of the others
                EDGE.due("point(2, 6), for " + -c, EDGE.desk.point(2, 6), c == 4294967296L && s + t == 2 ? 1 : 0);
                EDGE.desk.unclaim();
                claim(2, 0, s, 0, s, -c, 1);
                EDGE.due("point(2, 6), for " + -c, EDGE.desk.point(2, 6), 0);
            }
        }
        EDGE.program("fun m(){var x=any;var y=any;x=x;}");
        claim(2, 0, 1, 1, 1, Long.MIN_VALUE, 1);
        EDGE.claimed(2, "nothing");
        EDGE.desk.unclaim();
        claim(2, 0, -1, 0, -1, Long.MIN_VALUE + 1, 1);
        EDGE.claimed(2, "nothing");
        EDGE.desk.unclaim();
        claim(2, 0, 1, 1, 1, -4294967295L, 1);
        EDGE.claimed(2, "x in -2147483648..-2147483647, y in -2147483648..-2147483647, x + y <= -4294967295");
        EDGE.desk.unclaim();
        claim(2, 0, 1, 1, 1, -4294967297L, 1);
        EDGE.claimed(2, "nothing");
        EDGE.desk.unclaim();
        claim(2, 0, -1, 1, -1, -4294967293L, 1);
        EDGE.claimed(2, "x in 2147483646..2147483647, y in 2147483646..2147483647, -x - y <= -4294967293");
        claim(2, 0, -1, 1, -1, -4294967294L, 1);
        EDGE.claimed(2, "x in 2147483647..2147483647, y in 2147483647..2147483647");
        claim(2, 0, -1, 1, -1, -4294967295L, 1);
        EDGE.claimed(2, "nothing");
        EDGE.desk.unclaim();
        claim(2, 0, -1, 0, -1, -2147483647L, 1);
        claim(2, 0, -1, 0, -1, -2147483648L, 1);
        EDGE.claimed(2, "nothing");
        // c is a long: its lower half alone would bound x by 5
        EDGE.desk.unclaim();
        claim(2, 0, 1, 0, 1, (1L << 32) + 5, 0);
        claim(2, 0, 1, 0, 1, -(1L << 32) + 5, 1);
        EDGE.claimed(2, "nothing");
    }

    private static void claimsOfNothing() {
        EDGE.promise(9, "(also when nothing is claimed, as anywhere behind an analysis that was too much)");
        EDGE.program("fun m(){var x=1/0;x=1;}");
        claim(1, 0, 1, 0, 1, 5, 0);
        claim(1, 0, 1, 0, 1, -5, 0);
        claim(1, 1, 1, 1, 1, -5, -1);
        claim(1, 0, 1, 0, -1, -5, -1);
        EDGE.fresh();
        EDGE.due("end()", EDGE.desk.load(Edge.tooMuch().replace("var x;", "var x;var t[2];")), 3);
        claim(1, 0, 1, 0, 1, -5, 0);
        claim(25, 0, 1, 0, 1, -5, 0);
        claim(26, 0, 1, 0, 1, -5, -1);
        claim(1, 1, 1, 0, 1, -5, -1);
        claim(27, 0, 1, 0, 1, -5, -1);
        claimRange(2, 0, true, -5, 0);
        claimRange(2, 1, true, -5, -1);
        EDGE.due("claimNothing(0)", EDGE.desk.claimNothing(0), 0);
        EDGE.due("unclaim()", EDGE.desk.unclaim(), 0);
    }

    private static void refused(int p, int x, int s, int y, int t) {
        String call = "claim(" + p + ", " + x + ", " + s + ", " + y + ", " + t + ", -5)";
        EDGE.refused(call, desk -> desk.claim(p, x, s, y, t, -5), -1);
    }

    private static void refusedClaims() {
        EDGE.promise(9, "NONE, refused: there is no such point or slot, or other signs.");
        refused(-1, 0, 1, 0, 1);
        refused(0, 0, 1, 0, 1);
        refused(5, 0, 1, 0, 1);
        refused(6, 0, 1, 0, 1);
        refused(3, 1, 1, 1, 1);
        refused(3, 0, 1, 1, 1);
        refused(3, 1, 1, 0, 1);
        refused(3, -1, 1, 0, 1);
        refused(3, 0, 1, -1, 1);
        refused(3, 0, 1, 0, -1);
        refused(3, 0, -1, 0, 1);
        for (int other : new int[] {0, 2, -2, MIN, MAX}) {
            refused(3, 0, other, 0, other);
            refused(3, 0, other, 0, 1);
            refused(3, 0, 1, 0, other);
        }
        for (int far : FAR) {
            refused(far, 0, 1, 0, 1);
            refused(3, far, 1, 0, 1);
            refused(3, 0, 1, far, 1);
            refused(3, far, 1, far, 1);
        }
        EDGE.program(twelve("n0=0;"));
        claim(12, 11, 1, 11, 1, 21, 1);
        claim(12, 12, 1, 12, 1, 21, -1);
        claim(12, 11, 1, 12, 1, 21, -1);
    }

    private static void claimsOfRanges() {
        EDGE.promise(10, "Likewise the range of an array: no place above c, or none below c.");
        EDGE.program("fun m(){var t[3];t[1]=any(-5,9);t[1]=0;}");
        claimRange(2, 0, true, 10, 0);
        claimRange(2, 0, true, 9, 0);
        claimRange(2, 0, true, 8, 1);
        claimRange(2, 0, true, 8, 0);
        EDGE.claimed(2, "t[] in -5..8");
        claimRange(2, 0, false, -6, 0);
        claimRange(2, 0, false, -5, 0);
        claimRange(2, 0, false, -4, 1);
        claimRange(2, 0, false, -4, 0);
        EDGE.claimed(2, "t[] in -4..8");
        claimRange(2, 0, true, MAX, 0);
        claimRange(2, 0, false, MIN, 0);
        EDGE.known(2, "t[] in -5..9");
        EDGE.program("fun m(){var t[3];t[1]=any;t[1]=0;}");
        claimRange(2, 0, true, MAX, 0);
        claimRange(2, 0, false, MIN, 0);
        claimRange(2, 0, true, MAX - 1, 1);
        claimRange(2, 0, false, MIN + 1, 1);
        EDGE.claimed(2, "t[] in -2147483647..2147483646");
    }

    private static void claimsOfEachRange() {
        EDGE.promise(10, "Likewise the range of an array: no place above c, or none below c.");
        String arrays = "fun m(){var a[2];var b[2];var c[2];a[0]=any(-9,9);b[0]=any(-9,9);c[0]=any(-9,9);a[0]=a[1];}";
        String[] lines = {"a[] in -9..L, b[] in -9..9, c[] in -9..9", "a[] in -9..9, b[] in -9..L, c[] in -9..9",
            "a[] in -9..9, b[] in -9..9, c[] in -9..L"};
        for (int a = 0; a < 3; a++) {
            EDGE.program(arrays);
            inductive(-1);
            claimRange(6, a, true, 9, 0);
            claimRange(6, a, true, 8, 1);
            EDGE.claimed(6, lines[a].replace("L", "8"));
            inductive(5);
            claimRange(6, a, true, -9, 1);
            EDGE.claimed(6, lines[a].replace("L", "-9"));
            claimRange(6, a, false, -9, 0);
            claimRange(6, a, false, -8, 1);
            EDGE.claimed(6, "nothing");
            EDGE.desk.unclaim();
            inductive(-1);
            claimRange(6, a, false, -9, 0);
            claimRange(6, a, false, -8, 1);
            EDGE.claimed(6, lines[a].replace("-9..L", "-8..9"));
            inductive(5);
            EDGE.desk.unclaim();
            claimRange(6, a, true, -10, 1);
            EDGE.claimed(6, "nothing");
        }
    }

    private static void emptyRanges() {
        EDGE.promise(10, "(With an empty range nothing is claimed.)");
        EDGE.program("fun m(){var t[3];t[1]=any(-5,9);t[1]=0;}");
        claimRange(2, 0, true, -5, 1);
        EDGE.claimed(2, "t[] in -5..-5");
        claimRange(2, 0, true, -6, 1);
        EDGE.claimed(2, "nothing");
        EDGE.due("point(2, 6)", EDGE.desk.point(2, 6), 0);
        claimRange(2, 0, true, -7, 0);
        claimRange(2, 0, false, 100, 0);
        EDGE.due("unclaim()", EDGE.desk.unclaim(), 1);
        claimRange(2, 0, false, 9, 1);
        EDGE.claimed(2, "t[] in 9..9");
        claimRange(2, 0, false, 10, 1);
        EDGE.claimed(2, "nothing");
        EDGE.desk.unclaim();
        claimRange(2, 0, true, MIN, 1);
        EDGE.claimed(2, "nothing");
        EDGE.desk.unclaim();
        claimRange(2, 0, false, MAX, 1);
        EDGE.claimed(2, "nothing");
    }

    private static void refusedClaimsOfRanges() {
        EDGE.promise(10, "Likewise the range of an array");
        for (int side = 0; side < 2; side++) {
            boolean above = side == 1;
            int c = above ? -5 : 5;
            for (int[] no : new int[][] {{-1, 0}, {0, 0}, {1, 0}, {5, 0}, {6, 0}, {3, 1}, {3, -1}, {3, 6}, {MIN, 0}, {MAX, 0}, {3, MIN},
                {3, MAX}}) {
                EDGE.refused("claimRange(" + no[0] + ", " + no[1] + ", " + above + ", " + c + ")",
                    desk -> desk.claimRange(no[0], no[1], above, c), -1);
            }
        }
        EDGE.program(SIX);
        claimRange(9, 5, true, -1, 1);
        claimRange(9, 6, true, -1, -1);
    }

    private static void nothingIsClaimed() {
        EDGE.promise(11, "At a point nothing is claimed: 1, or 0 if that was so");
        EDGE.program("fun m(){var x=1;x=1/0;x=2;}");
        EDGE.due("claimNothing(2), where nothing is known", EDGE.desk.claimNothing(2), 0);
        for (int p = 0; p < 2; p++) {
            EDGE.due("claimNothing(" + p + ")", EDGE.desk.claimNothing(p), 1);
            EDGE.due("claimNothing(" + p + ") again", EDGE.desk.claimNothing(p), 0);
            EDGE.due("point(" + p + ", 6)", EDGE.desk.point(p, 6), 0);
            EDGE.due("point(" + p + ", 5)", EDGE.desk.point(p, 5), 1);
        }
        EDGE.due("claimNothing(3), the end", EDGE.desk.claimNothing(3), 0);
        EDGE.due("unclaim()", EDGE.desk.unclaim(), 2);
        EDGE.program("fun m(){}");
        EDGE.due("claimNothing(0), the end", EDGE.desk.claimNothing(0), 1);
        EDGE.due("claimNothing(0) again", EDGE.desk.claimNothing(0), 0);
    }

    private static void refusedClaimsOfNothing() {
        EDGE.promise(11, "NONE when there is no such point.");
        for (int p : new int[] {-1, 6, 250, MIN, MAX}) {
            EDGE.refused("claimNothing(" + p + ")", desk -> desk.claimNothing(p), -1);
        }
        EDGE.fresh();
        Edge.fill(EDGE.desk);
        EDGE.due("claimNothing(5), the last point", EDGE.desk.claimNothing(5), 1);
    }

    private static void unclaiming() {
        EDGE.promise(12, "Claims are as analysed: at how many points the set was less (also those at which nothing was claimed any more).");
        EDGE.program("fun m(){var x=any(0,10);var t[2];t[0]=x;x=x;x=1/0;x=x;}");
        EDGE.due("unclaim() of none", EDGE.desk.unclaim(), 0);
        claim(1, 0, 1, 0, 1, 10, 0);
        EDGE.due("unclaim() of the same", EDGE.desk.unclaim(), 0);
        claim(1, 0, 1, 0, 1, 9, 1);
        claim(1, 0, 1, 0, 1, 8, 1);
        EDGE.due("unclaim() of one, made less twice", EDGE.desk.unclaim(), 1);
        claimRange(3, 0, true, 9, 1);
        EDGE.due("unclaim() of an array", EDGE.desk.unclaim(), 1);
        claimRange(3, 0, true, -1, 1);
        EDGE.due("unclaim() of an empty range", EDGE.desk.unclaim(), 1);
        EDGE.due("claimNothing(5), where nothing is known", EDGE.desk.claimNothing(5), 0);
        EDGE.due("unclaim()", EDGE.desk.unclaim(), 0);
        int there = 0;
        for (int p = 0; p < EDGE.desk.points(); p++) {
            there += EDGE.desk.claimNothing(p);
        }
        EDGE.due("points at which something was claimed", there, 5);
        EDGE.due("unclaim() of all", EDGE.desk.unclaim(), 5);
        EDGE.due("unclaim() again", EDGE.desk.unclaim(), 0);
        EDGE.claimed(1, "x in 0..10");
        EDGE.claimed(4, "x in 0..10, t[] in 0..10");
        EDGE.program("fun m(){" + "if(1<2){}".repeat(249) + "}");
        EDGE.due("claimNothing(0)", EDGE.desk.claimNothing(0), 1);
        EDGE.due("claimNothing(249)", EDGE.desk.claimNothing(249), 1);
        EDGE.due("unclaim() of the first and the last of 250", EDGE.desk.unclaim(), 2);
        EDGE.due("point(249, 6)", EDGE.desk.point(249, 6), 1);
    }

    private static void claimsBehindTooMuch() {
        EDGE.promise(13, "-3 (asked first) when the analysis was too much");
        EDGE.fresh();
        EDGE.due("end()", EDGE.desk.load(Edge.tooMuch()), 3);
        inductive(-3);
        EDGE.due("claimNothing(0)", EDGE.desk.claimNothing(0), 0);
        inductive(-3);
        EDGE.desk.load("fun m(){var x;}");
        inductive(-1);
    }

    private static void asAnalysed() {
        EDGE.terms(CLAIMS, "CLAIMS are what is known at each point, at first as analysed; they can be made less.");
        String text = "fun f(a){return a*2;}fun m(){var x=any(0,5);var t[2];while(x<9){t[0]=x;x=x+1;}if(x<2){x=f(x);}else{f(x);}assert(x>1);}";
        for (int p = 0; p < 12; p++) {
            EDGE.program(text);
            EDGE.due("points()", EDGE.desk.points(), 12);
            EDGE.due("the claim at " + p, EDGE.desk.line(true, p), EDGE.desk.line(false, p));
            inductive(-1);
        }
    }

    private static void theBeginning() {
        EDGE.promise(13, "-2 if the beginning does not lie in that of point 0");
        EDGE.program("fun m(){var x=5;x=6;}");
        inductive(-1);
        EDGE.desk.claimNothing(0);
        inductive(-2);
        EDGE.desk.claimNothing(1);
        EDGE.desk.claimNothing(2);
        inductive(-2);
        EDGE.desk.unclaim();
        inductive(-1);
        EDGE.desk.load("fun m(){}");
        inductive(-1);
        EDGE.desk.claimNothing(0);
        inductive(-2);
        EDGE.desk.load("fun m(){while(any<1){}}");
        inductive(-1);
        EDGE.desk.claimNothing(0);
        inductive(-2);
    }

    private static void beginningInPointZero() {
        EDGE.terms(CLAIMS, "They are INDUCTIVE if the beginning lies in that of point 0");
        EDGE.program("fun m(){while(any<1){if(1<2){}}}");
        inductive(-1);
        EDGE.due("claimNothing(1)", EDGE.desk.claimNothing(1), 1);
        inductive(0);
        EDGE.due("claimNothing(2)", EDGE.desk.claimNothing(2), 1);
        EDGE.due("claimNothing(0)", EDGE.desk.claimNothing(0), 1);
        // nothing leads to something that is not claimed, but the beginning
        inductive(-2);
    }

    private static void firstPointThatLeads() {
        EDGE.promise(13, "Whether claims are inductive: NONE if they are; -3 (asked first) when the analysis was too much; -2 if the beginning "
            + "does not lie in that of point 0; otherwise the first point of which the statement leads to something that is not claimed.");
        EDGE.program("fun m(){var x=5;x=6;x=7;x=8;}");
        for (int p = 1; p < 5; p++) {
            EDGE.desk.claimNothing(p);
            inductive(p - 1);
            EDGE.desk.unclaim();
        }
        EDGE.desk.claimNothing(4);
        inductive(3);
        EDGE.desk.claimNothing(2);
        inductive(1);
        // nothing is claimed at 3, so that its statement leads to nothing
        EDGE.desk.unclaim();
        EDGE.desk.claimNothing(3);
        EDGE.desk.claimNothing(4);
        inductive(2);
        EDGE.desk.claimNothing(2);
        inductive(1);
        EDGE.desk.claimNothing(1);
        inductive(0);
    }

    private static void exactlyWhatIsKnownBehind() {
        EDGE.terms(CLAIMS, "for each statement what is known behind it, by its claim before, lies in the claim of each point that can be next");
        EDGE.program("fun m(){var x=any(0,9);x=x+1;x=x;}");
        claim(1, 0, 1, 0, 1, 8, 1);
        inductive(0);
        EDGE.desk.unclaim();
        claim(2, 0, 1, 0, 1, 9, 1);
        inductive(1);
        EDGE.desk.unclaim();
        // the analysis lost that x is no less than 0, and claims bring it back, but no more
        EDGE.program("fun m(){var x=9;while(x!=0){x=x-1;}x=x;}");
        claim(1, 0, -1, 0, -1, 0, 1);
        claim(2, 0, -1, 0, -1, -1, 1);
        inductive(-1);
        claim(2, 0, -1, 0, -1, -2, 1);
        inductive(1);
        EDGE.desk.unclaim();
        claim(1, 0, -1, 0, -1, 1, 1);
        inductive(2);
        EDGE.desk.unclaim();
        claim(2, 0, -1, 0, -1, -1, 1);
        inductive(1);
        // a claim that is less lets what is behind it be less, too
        EDGE.program("fun m(){var x=any(0,9);assert(x<5);var t[2];t[0]=x;x=t[1];x=x;}");
        claimRange(4, 0, true, 3, 1);
        inductive(3);
        claim(3, 0, 1, 0, 1, 3, 1);
        inductive(2);
        claim(2, 0, 1, 0, 1, 3, 1);
        inductive(1);
        claim(1, 0, 1, 0, 1, 3, 1);
        inductive(0);
    }

    /** Nothing is claimed at a point: then it is the first one that leads to it from which this is not inductive. */
    private static void pointsThatCanBeNext() {
        EDGE.terms(CLAIMS, "lies in the claim of each point that can be next");
        String text = "fun f(a){a=a+1;return a;}fun e(){}fun m(){var x=any(0,3);var t[2];x=f(x);f(x);e();if(x<2){t[0]=x;}else{t[1]=7;}if(x<2){}"
            + "while(x<9){var y=x;x=x+1;}assert(x>=9);}";
        EDGE.program(text);
        int[] first = {-2, 0, 1, 2, 3, 4, 5, 6, 7, 8, 9, 9, 10, 12, 13, 14, 13, 16};
        EDGE.due("points()", EDGE.desk.points(), first.length);
        for (int p = 0; p < first.length; p++) {
            EDGE.due("claimNothing(" + p + ")", EDGE.desk.claimNothing(p), 1);
            EDGE.due("inductive(), nothing being claimed at " + p, EDGE.desk.inductive(), first[p]);
            EDGE.desk.unclaim();
        }
    }

    private static void whilesToThemselves() {
        EDGE.terms(CLAIMS, "(for a while: by COND from its claim, to the first point of its BLOCK or it itself, and to the one behind it");
        EDGE.program("fun m(){var x=any(0,9);while(x<5){}x=x;}");
        inductive(-1);
        claim(2, 0, -1, 0, -1, -5, 0);
        claim(2, 0, -1, 0, -1, -6, 1);
        inductive(1);
        EDGE.program("fun m(){while(any<1){}}");
        inductive(-1);
        EDGE.desk.claimNothing(1);
        inductive(0);
        // a while that leads to itself with an array or a number that its COND can't change is within its own claim
        EDGE.program("fun m(){var x=any(0,9);while(x/x<5){}x=x;}");
        inductive(-1);
        claim(1, 0, 1, 0, 1, 8, 1);
        inductive(0);
        EDGE.program("fun m(){var x;while(x<3){x=x+1;}x=x;}");
        claim(1, 0, 1, 0, 1, 2, 1);
        inductive(2);
        EDGE.desk.unclaim();
        claim(2, 0, 1, 0, 1, 1, 1);
        inductive(1);
        EDGE.desk.unclaim();
        claim(3, 0, 1, 0, 1, 2, 1);
        inductive(1);
    }

    private static void endsOfBlocks() {
        EDGE.terms(CLAIMS, "what ends a BLOCK leads to where the run goes on");
        // 0 var, 1 if, 2 if, 3 x=1, 4 x=2, 5 while, 6 if, 7 x=4, 8 x=5, 9 x=6, 10 end
        EDGE.program("fun m(){var x=any(0,9);if(x<5){if(x<2){x=1;}else{x=2;}}while(x<7){if(x<3){x=4;}else{x=5;}}x=6;}");
        int[] first = {-2, 0, 1, 2, 2, 1, 5, 6, 6, 5, 9};
        for (int p = 0; p < first.length; p++) {
            EDGE.desk.claimNothing(p);
            EDGE.due("inductive(), nothing being claimed at " + p, EDGE.desk.inductive(), first[p]);
            EDGE.desk.unclaim();
        }
        // the last statements of both BLOCKs in the while lead to the while
        claim(5, 0, 1, 0, 1, 4, 1);
        inductive(1);
        claim(1, 0, 1, 0, 1, 4, 1);
        claim(0, 0, 1, 0, 1, 4, -1);
        inductive(0);
        // 0 var, 1 call g, 2 call f, 3 a=2, 4 x=3, 5 end
        EDGE.program("fun f(){var a=1;a=2;}fun g(){f();}fun m(){var x=any(0,9);g();x=3;}");
        int[] calls = {-2, 0, 1, 2, 3, 4, 5};
        for (int p = 0; p < calls.length; p++) {
            EDGE.desk.claimNothing(p);
            EDGE.due("inductive(), nothing being claimed at " + p, EDGE.desk.inductive(), calls[p]);
            EDGE.desk.unclaim();
        }
    }

    private static void slotsThatEnd() {
        EDGE.terms(CLAIMS, "slots that end being left out");
        EDGE.program("fun f(a){var b=a;return b;}fun m(){var x=any(0,9);if(x<5){var y=x;var t[2];t[0]=y;}x=f(x);while(x<9){var z=x;x=z+1;}x=x;}");
        inductive(-1);
        // an if and a while as last statements: where COND fails, the run goes on without the slots of the BLOCK
        String[] ends = {"if(x<5){var y=5;var t[2];t[0]=6;if(x<3){x=x;}}", "if(x<5){var y=5;var t[2];t[0]=6;while(x<3){x=x+1;}}",
            "while(x<5){var y=5;var t[2];t[0]=6;x=x+1;if(x<3){}}", "while(x<5){var y=5;var t[2];t[0]=6;x=x+1;while(x<3){x=x+1;}}",
            "f(7);", "if(x<5){f(x);}else{f(7);}"};
        for (String end : ends) {
            EDGE.program("fun f(a){var y=5;var t[2];t[0]=6;if(a<3){}}fun m(){var x=any(0,9);" + end + "x=x;}");
            EDGE.due("inductive() of " + end, EDGE.desk.inductive(), -1);
        }
        EDGE.program("fun m(){var x=any(0,9);if(x<5){var y=x;y=7;}var w=x;w=w;}");
        inductive(-1);
        claim(3, 1, 1, 1, 1, 3, 1);
        inductive(2);
        claim(2, 0, 1, 0, 1, 3, 1);
        inductive(1);
        EDGE.desk.unclaim();
        claim(4, 0, -1, 0, -1, -1, 1);
        inductive(3);
    }

    private static void askedFirst() {
        EDGE.promise(13, "-3 (asked first) when the analysis was too much; -2 if the beginning does not lie in that of point 0");
        EDGE.fresh();
        EDGE.desk.load(Edge.tooMuch());
        EDGE.due("point(0, 6), nothing being claimed", EDGE.desk.point(0, 6), 0);
        inductive(-3);
        EDGE.program("fun m(){var x=5;x=6;}");
        EDGE.desk.claimNothing(0);
        EDGE.desk.claimNothing(2);
        inductive(-2);
    }
}
