/** Paragraphs of 'Terms' on while, and on what each point has, at their edges. */
public final class WhileEdgeTest {
    private static final Edge EDGE = new Edge("WhileEdgeTest");
    private static final String WHILE = "while, with S known before";
    private static final String EACH = "Each point has";
    private static final String MOST = "2147483647";
    private static final String LEAST = "-2147483648";

    public static void main(String[] args) {
        lastRounds();
        joinedRounds();
        roundsDownwards();
        asGreatAsTheyCanBe();
        twelveNumbers();
        boundsThatStay();
        endsOfRanges();
        boundsThatAreToldAndNotTight();
        twoTries();
        triesOfEachWhile();
        triesThatEnd();
        tryThatIsRefused();
        oneMoreRound();
        behindTheWhile();
        allAnew();
        lookedAtLast();
        pointOfAWhile();
        work();
        workOfNothing();
        mostWork();
        tooMuch();
        EDGE.finish();
    }

    /** A program with a while at point 1, by x that begins with 0, and with x = x behind it. */
    private static void loop(String loop, int work, String head, String behind) {
        String text = "fun m(){var x;" + loop + "x=x;}";
        EDGE.program(text);
        EDGE.due("told(2) of " + text, EDGE.desk.told(2), work);
        EDGE.due("the line of the while in " + text, EDGE.desk.line(false, 1), head);
        EDGE.due("the line behind the while in " + text, EDGE.desk.line(false, EDGE.desk.points() - 2), behind);
        EDGE.due("inductive() of " + text, EDGE.desk.inductive(), -1);
    }

    /** Work is 1 for the var, 1 for x = x if something is known there, and for each round 1 for each statement come to. */
    private static void lastRounds() {
        EDGE.terms(WHILE, "H is S at first. A ROUND: B is what is known at the end of its BLOCK, by where COND holds in H; N is the join of S "
            + "and B. If N lies in H, that was the last round");
        // N lies in H in round 1, 2, 3; each time one more round comes last of all
        loop("while(x<0){x=x+1;}", 2 + 2, "x in 0..0", "x in 0..0");
        loop("while(x<1){x=x+1;}", 2 + 2 * 3, "x in 0..1", "x in 1..1");
        loop("while(x<2){x=x+1;}", 2 + 2 * 4, "x in 0..2", "x in 2..2");
        loop("while(x<1){x=x;}", 1 + 2 * 2, "x in 0..0", "nothing");
        loop("while(x<1){x=1/0;}", 1 + 2 * 2, "x in 0..0", "nothing");
        loop("while(any<1){x=1/0;}", 2 + 2 * 2, "x in 0..0", "x in 0..0");
        loop("while(any<1){}", 2 + 2, "x in 0..0", "x in 0..0");
        EDGE.program("fun m(){var x=any(0,5);while(any<1){x=any(0,5);}x=x;}");
        EDGE.due("told(2): one var, two rounds with two statements, and one", EDGE.desk.told(2), 1 + 2 * 2 + 1);
        EDGE.program("fun m(){var x;x=x+any(0,5);while(any<1){x=any(0,5);}x=x;}");
        EDGE.due("told(2): two, two rounds with two statements, and one", EDGE.desk.told(2), 2 + 2 * 2 + 1);
    }

    private static void joinedRounds() {
        EDGE.terms(WHILE, "otherwise H is the join of H and N after the first two rounds, and after others those bounds that are told of H "
            + "are made as great as they can be that are less than the tight ones of N");
        // in the third round x comes to 3, so that it is made as great as it can be, and a round tried with 0 .. 3 makes it less
        loop("while(x<3){x=x+1;}", 2 + 2 * 6, "x in 0..3", "x in 3..3");
        loop("while(x<10){x=x+1;}", 2 + 2 * 6, "x in 0..10", "x in 10..10");
        // by != no round that is tried makes it less
        loop("while(x!=1){x=x+1;}", 2 + 2 * 3, "x in 0..1", "x in 1..1");
        loop("while(x!=2){x=x+1;}", 2 + 2 * 4, "x in 0..2", "x in 2..2");
        loop("while(x!=3){x=x+1;}", 2 + 2 * 5, "x in 0.." + MOST, "x in 3..3");
        loop("while(x!=4){x=x+1;}", 2 + 2 * 5, "x in 0.." + MOST, "x in 4..4");
        // what is known is 0 .. 4 with 3 in it, by which the third round comes to 5
        loop("while(x!=4){x=x+2;}", 2 + 2 * 5, "x in 0.." + MOST, "x in 4..4");
    }

    private static void roundsDownwards() {
        EDGE.terms(WHILE, "otherwise H is the join of H and N after the first two rounds, and after others those bounds that are told of H "
            + "are made as great as they can be that are less than the tight ones of N");
        loop("while(x!=-2){x=x-1;}", 2 + 2 * 4, "x in -2..0", "x in -2..-2");
        loop("while(x!=-3){x=x-1;}", 2 + 2 * 5, "x in " + LEAST + "..0", "x in -3..-3");
        loop("while(x>-3){x=x-1;}", 2 + 2 * 6, "x in -3..0", "x in -3..-3");
    }

    private static void bound(int p, int x, int s, int y, int t, long want) {
        EDGE.due("bound(false, " + p + ", " + x + ", " + s + ", " + y + ", " + t + ")", EDGE.desk.bound(false, p, x, s, y, t), want);
    }

    private static void asGreatAsTheyCanBe() {
        EDGE.terms(WHILE, "(for x 2^31 - 1, -x 2^31, x + y 2^32 - 2, x - y 2^32 - 1, -x - y 2^32)");
        EDGE.program("fun m(){var x;var y;while(any<1){if(any<1){x=x+1;}if(any<1){y=y+1;}}x=x;}");
        bound(2, 0, 1, 0, 1, 2147483647L);
        bound(2, 0, -1, 0, -1, 0);
        bound(2, 0, 1, 1, 1, 4294967294L);
        bound(2, 0, -1, 1, -1, 0);
        EDGE.program("fun m(){var x;var y;while(any<1){if(any<1){x=x-1;}if(any<1){y=y-1;}}x=x;}");
        bound(2, 0, 1, 0, 1, 0);
        bound(2, 0, -1, 0, -1, 2147483648L);
        bound(2, 0, 1, 1, 1, 0);
        bound(2, 0, -1, 1, -1, 4294967296L);
        EDGE.program("fun m(){var x;var y;while(any<1){if(any<1){x=x+1;}if(any<1){y=y-1;}}x=x;}");
        bound(2, 0, 1, 1, -1, 4294967295L);
        bound(2, 0, -1, 1, 1, 0);
        EDGE.program("fun m(){var x;var y;while(any<1){if(any<1){x=x-1;}if(any<1){y=y+1;}}x=x;}");
        bound(2, 0, -1, 1, 1, 4294967295L);
        bound(2, 0, 1, 1, -1, 0);
    }

    private static void twelveNumbers() {
        EDGE.terms(WHILE, "those bounds that are told of H are made as great as they can be that are less than the tight ones of N");
        StringBuilder text = new StringBuilder("fun m(){");
        StringBuilder loop = new StringBuilder();
        for (int k = 0; k < 12; k++) {
            text.append("var n").append(k).append("=").append(k).append(";");
            loop.append("if(any<1){n").append(k).append("=n").append(k).append(k % 2 == 0 ? "+1;}" : "-1;}");
        }
        EDGE.program(text + "while(any<1){" + loop + "}n0=n0;}");
        for (int k = 0; k < 12; k++) {
            boolean up = k % 2 == 0;
            bound(12, k, 1, k, 1, up ? 2147483647L : k);
            bound(12, k, -1, k, -1, up ? -k : 2147483648L);
            int other = (k + 2) % 12;
            bound(12, k, 1, other, 1, up ? 4294967294L : k + other);
            bound(12, k, -1, other, -1, up ? -k - other : 4294967296L);
        }
        EDGE.due("inductive()", EDGE.desk.inductive(), -1);
    }

    private static void boundsThatStay() {
        EDGE.terms(WHILE, "all others staying as they are told of H");
        EDGE.program("fun m(){var x;var y;while(any<1){x=x+1;y=y+1;}x=x;}");
        EDGE.known(2, "x in 0.." + MOST + ", y in 0.." + MOST + ", x - y <= 0, -x + y <= 0");
        EDGE.program("fun m(){var x=any(0,9);var y=x;while(any<1){y=y+any(0,1);}x=x;}");
        EDGE.known(2, "x in 0..9, y in 0.." + MOST + ", x - y <= 0");
        EDGE.program("fun m(){var x;var n=any(0,9);while(x<n){x=x+1;}x=x;}");
        EDGE.known(2, "x in 0..9, n in 0..9, x - n <= 0");
        EDGE.known(4, "x in 0..9, n in 0..9, x - n <= 0, -x + n <= 0");
        // by x <= n the H that was made greater is tightly 0 .. 9 at once, so that N is the same as it, and nothing is tried
        EDGE.due("told(2): two vars, five rounds with two statements, and one", EDGE.desk.told(2), 2 + 5 * 2 + 1);
        EDGE.program("fun m(){var n=any(0,9);var x;while(x<n){x=x+1;}x=x;}");
        EDGE.known(2, "n in 0..9, x in 0..9, -n + x <= 0");
        EDGE.due("told(2): two vars, five rounds with two statements, and one", EDGE.desk.told(2), 2 + 5 * 2 + 1);
        EDGE.program("fun m(){var w=5;var x;var y;var z;while(any<1){if(any<1){x=x+1;}if(any<1){y=y-1;}if(any<1){z=z+2;}}x=x;}");
        EDGE.known(4, "w in 5..5, x in 0.." + MOST + ", y in " + LEAST + "..0, z in 0.." + MOST);
        EDGE.program("fun m(){var x;var n=any(0,9);var y;while(any<1){if(y<n){y=y+1;}}x=x;}");
        EDGE.known(3, "x in 0..0, n in 0..9, y in 0..9, -n + y <= 0");
        EDGE.due("told(2): three vars, five rounds with three statements, and one", EDGE.desk.told(2), 3 + 5 * 3 + 1);
    }

    private static void endsOfRanges() {
        EDGE.terms(WHILE, "and its ranges' ends that N is not within likewise");
        EDGE.program("fun m(){var t[1];var u[2];while(any<1){t[0]=t[0]+1;u[0]=u[0]-1;}t[0]=0;}");
        EDGE.known(2, "t[] in 0.." + MOST + ", u[] in " + LEAST + "..0");
        StringBuilder six = new StringBuilder("fun m(){");
        StringBuilder loop = new StringBuilder();
        StringBuilder line = new StringBuilder();
        for (int a = 0; a < 6; a++) {
            six.append("var t").append(a).append("[1];");
            loop.append("t").append(a).append("[0]=t").append(a).append(a % 2 == 0 ? "[0]+1;" : "[0]-1;");
            line.append(a == 0 ? "t" : ", t").append(a).append("[] in ").append(a % 2 == 0 ? "0.." + MOST : LEAST + "..0");
        }
        EDGE.program(six + "while(any<1){" + loop + "}t0[0]=0;}");
        EDGE.known(6, line.toString());
        // N is [0, 1], [0, 2] in the first rounds, and the third one is within
        EDGE.program("fun m(){var t[2];while(any<1){if(t[0]<2){t[1]=t[0]%2+1;}}t[0]=0;}");
        EDGE.known(1, "t[] in 0..2");
        EDGE.program("fun m(){var t[2];while(any<1){t[1]=(t[0]+1)%3;}t[0]=0;}");
        EDGE.known(1, "t[] in 0..2");
        // as the third round comes to 3, the end is made as great as it can be; by what lay in a place before, it stays so
        EDGE.program("fun m(){var t[2];while(any<1){t[1]=(t[0]+1)%4;}t[0]=0;}");
        EDGE.known(1, "t[] in 0.." + MOST);
    }

    private static void boundsThatAreToldAndNotTight() {
        EDGE.terms(WHILE, "all others staying as they are told of H, though they may not be tight then");
        // After three rounds x <= y stays and x is told to be any int above 0, so that x is 10 at most, tightly. By this
        // alone the fourth round comes to y - 1, so that x <= y goes too: then nothing that is told bounds x any more, and
        // what is above y is never made less.
        EDGE.program("fun m(){var x;var y=any(0,10);while(any<1){if(x<y){x=x+1;}if(x>5){y=y-1;}}x=0;}");
        bound(2, 0, 1, 0, 1, 2147483647L);
        bound(2, 0, -1, 0, -1, 0);
        bound(2, 1, 1, 1, 1, 10);
        EDGE.program("fun m(){var x;var y=any(0,5);while(any<1){if(x<y){x=x+1;}if(x>5){y=y-1;}}x=0;}");
        bound(2, 0, 1, 0, 1, 5);
        EDGE.terms(WHILE, "(What is told of H at first, and when it was joined, are its tight bounds.)");
        // y comes to 11 in the two joined rounds; in the third one only y - x becomes greater than it was told
        EDGE.program("fun m(){var x=any(0,9);var y=x;while(any<1){if(y<11){y=y+1;}}x=x;}");
        EDGE.known(2, "x in 0..9, y in 0..11, x - y <= 0");
        EDGE.program("fun m(){var x=any(0,9);var y=x;while(any<1){if(y<12){y=y+1;}}x=x;}");
        EDGE.known(2, "x in 0..9, y in 0.." + MOST + ", x - y <= 0");
    }

    private static void twoTries() {
        EDGE.terms(WHILE, "Then, up to two times: if the N of the last round that was made with H is not the same as H, a round is made with "
            + "that N in place of H; if the N of this lies in it, it is H from then on");
        // With all as great as can be, N has t up to 9; the first try makes u less, so that H is what had t less; the
        // second one makes v less, so that H is what had u less, too; there is no third one.
        EDGE.program("fun m(){var x;var t[1];var u[1];var v[1];while(x<10){v[0]=u[0];u[0]=t[0];t[0]=x;x=x+1;}x=0;}");
        EDGE.known(4, "x in 0..10, t[] in 0..9, u[] in 0..9, v[] in 0.." + MOST);
        EDGE.due("told(2): four vars, eight rounds with five statements, and one", EDGE.desk.told(2), 4 + 8 * 5 + 1);
        EDGE.program("fun m(){var x;var t[1];var u[1];while(x<10){u[0]=t[0];t[0]=x;x=x+1;}x=0;}");
        EDGE.known(3, "x in 0..10, t[] in 0..9, u[] in 0..9");
        EDGE.due("told(2): three vars, seven rounds with four statements, and one", EDGE.desk.told(2), 3 + 7 * 4 + 1);
    }

    private static void triesOfEachWhile() {
        EDGE.terms(WHILE, "Then, up to two times");
        String loop = "x=0;t[0]=0;u[0]=0;v[0]=0;while(x<10){v[0]=u[0];u[0]=t[0];t[0]=x;x=x+1;}";
        EDGE.program("fun m(){var x;var t[1];var u[1];var v[1];" + loop + loop + "if(1<2){" + loop + "}x=0;}");
        for (int p : new int[] {8, 17, 27}) {
            EDGE.known(p, "x in 0..10, t[] in 0..9, u[] in 0..9, v[] in 0.." + MOST);
        }
        EDGE.due("told(2)", EDGE.desk.told(2), 4 + 3 * (4 + 8 * 5) + 2);
        EDGE.program("fun m(){var k;while(any<1){var x;var t[1];var u[1];var v[1];" + loop + "}k=0;}");
        EDGE.known(10, "k in 0..0, x in 0..10, t[] in 0..9, u[] in 0..9, v[] in 0.." + MOST);
    }

    private static void triesThatEnd() {
        EDGE.terms(WHILE, "otherwise, or if it was the same, this ends");
        // the N of the last round is the same as H: none is tried
        loop("while(any<1){x=x+1;}", 2 + 2 * 5, "x in 0.." + MOST, "x in 0.." + MOST);
        // the N of the first try is the same as what was tried: there is no second one
        loop("while(x<10){x=x+1;}", 2 + 2 * 6, "x in 0..10", "x in 10..10");
    }

    private static void tryThatIsRefused() {
        EDGE.terms(WHILE, "if the N of this lies in it, it is H from then on; otherwise, or if it was the same, this ends");
        // By k in 0 .. 2147483647 i begins in 0 .. 8, the inner while ends without more, and t is 7 at most: that is N, with k
        // in 0 .. 4. By this k i begins in 0 .. 4, the inner while makes i as great as it can be, and t is not within N.
        EDGE.program("fun m(){var k;var t[1];while(any<1){t[0]=0;var i=k%9;while(i!=8){t[0]=i;i=i+1;}k=(k+1)%5;}k=0;}");
        EDGE.known(2, "k in 0.." + MOST + ", t[] in 0.." + MOST);
        // inside is known what comes of H
        EDGE.known(8, "k in 0.." + MOST + ", i in 8..8, t[] in 0..7");
        EDGE.due("alarms of t[0]=i", EDGE.desk.point(6, 2), 0);
        EDGE.due("inductive()", EDGE.desk.inductive(), -1);
    }

    private static void oneMoreRound() {
        EDGE.terms(WHILE, "Last of all one more round with H tells what is known at all points in the while.");
        EDGE.program("fun m(){var x;while(x<10){if(x>9){x=1/0;}x=x+1;}x=x;}");
        EDGE.known(2, "x in 0..9");
        EDGE.known(3, "nothing");
        EDGE.known(4, "x in 0..9");
        // while H is as great as can be, t[0] can miss the array; by the H that is found at last it can't
        EDGE.program("fun m(){var x;var t[1];var u[10];while(x<10){u[t[0]]=1;t[0]=x;x=x+1;}x=x;}");
        EDGE.known(4, "x in 0..9, t[] in 0..9, u[] in 0..1");
        EDGE.due("alarms of u[t[0]]=1", EDGE.desk.point(4, 2), 0);
        EDGE.program("fun m(){var x;var t[1];var u[9];while(x<10){u[t[0]]=1;t[0]=x;x=x+1;}x=x;}");
        EDGE.due("alarms of u[t[0]]=1, u being shorter", EDGE.desk.point(4, 2), 4);
    }

    private static void behindTheWhile() {
        EDGE.terms(WHILE, "Behind the while is known where COND fails in H.");
        loop("while(1<2){x=x;}", 1 + 2 * 2, "x in 0..0", "nothing");
        loop("while(2<1){x=x;}", 2 + 2, "x in 0..0", "x in 0..0");
        loop("while(x<10){x=x+3;}", 2 + 2 * 6, "x in 0..12", "x in 10..12");
        loop("while(x<10&&any<1){x=x+3;}", 2 + 2 * 6, "x in 0..12", "x in 0..12");
        loop("while(1/x<1){x=x;}", 1 + 2, "x in 0..0", "nothing");
    }

    private static void allAnew() {
        EDGE.terms(WHILE, "(In each round all inside is done so anew.)");
        // the outer while has two rounds; in each the inner one has four, with two statements each
        loop("while(any<1){x=0;while(x<2){x=x+1;}x=0;}", 2 + 2 * (1 + 1 + 4 * 2 + 1), "x in 0..0", "x in 0..0");
        loop("while(any<1){x=0;while(x<3){x=x+1;}x=0;}", 2 + 2 * (1 + 1 + 6 * 2 + 1), "x in 0..0", "x in 0..0");
        loop(Edge.whiles(1), 2 + 2, "x in 0..0", "x in 0..0");
        loop(Edge.whiles(2), 2 + 6, "x in 0..0", "x in 0..0");
        loop(Edge.whiles(3), 2 + 14, "x in 0..0", "x in 0..0");
    }

    private static void lookedAtLast() {
        EDGE.terms(EACH, "Each point has what was known, and the alarms, when its statement was looked at last");
        EDGE.program("fun m(){var x;while(x<3){assert(x<3);x=x+1;}x=1/x;}");
        EDGE.known(2, "x in 0..2");
        EDGE.due("alarms of the assert", EDGE.desk.point(2, 2), 0);
        EDGE.due("alarms of 1 / x", EDGE.desk.point(4, 2), 0);
        EDGE.program("fun f(a){return 1/a;}fun m(){var x;x=f(1);x=f(x-1);}");
        EDGE.due("alarms of the first return", EDGE.desk.point(2, 2), 0);
        EDGE.due("alarms of the second return", EDGE.desk.point(4, 2), 2);
    }

    private static void pointOfAWhile() {
        EDGE.terms(EACH, "that of a while H");
        EDGE.program("fun m(){var x=5;while(x<9){x=x+2;}x=x;}");
        EDGE.known(1, "x in 5..10");
        EDGE.program("fun m(){var x=5;while(1/(x-7)<9){x=x+1;}x=x;}");
        EDGE.due("alarms of the COND by H", EDGE.desk.point(1, 2), 2);
    }

    private static void workIs(String text, int work) {
        EDGE.program(text);
        EDGE.due("told(2) of " + text, EDGE.desk.told(2), work);
    }

    private static void work() {
        EDGE.terms(EACH, "WORK is how often statements (the end is none) were looked at before which there was something (a while once a "
            + "round); in rounds that are tried, too");
        workIs("fun m(){}", 0);
        workIs("fun m(){var x;}", 1);
        workIs("fun m(){var x;var t[2];x=1;t[0]=x;assert(x==1);}", 5);
        workIs("fun m(){if(any<1){if(1<2){}}else{if(1<2){}if(1<2){}}}", 4);
        workIs("fun f(){return 1;}fun m(){var x;f();x=f();}", 5);
        workIs("fun m(){while(any<1){}}", 2);
        workIs("fun m(){while(any<1){if(1<2){}}}", 4);
        workIs("fun m(){var x;while(x<3){x=x+1;}}", 1 + 2 * 6);
        workIs("fun m(){" + "if(1<2){}".repeat(249) + "}", 249);
    }

    private static void workOfNothing() {
        EDGE.terms(EACH, "were looked at before which there was something");
        workIs("fun m(){if(2<1){if(1<2){}if(1<2){}}}", 1);
        workIs("fun m(){if(1<2){}else{if(1<2){}if(1<2){}}}", 1);
        workIs("fun m(){while(2<1){if(1<2){}}}", 2);
        workIs("fun m(){assert(2<1);if(1<2){}while(1<2){}}", 1);
        workIs("fun f(a){a=1;}fun m(){f(1/0);f(1);}", 1);
        workIs("fun m(){while(1<2){}if(1<2){}}", 2);
    }

    /** Work of 2 for one while, of 6, 14, 30 and so on for whiles within one another. */
    private static String work3994() {
        return Edge.whiles(10) + Edge.whiles(9) + Edge.whiles(8) + Edge.whiles(7) + Edge.whiles(6) + Edge.whiles(4) + Edge.whiles(2);
    }

    private static void mostWork() {
        EDGE.terms(EACH, "with more than 4000 the analysis is TOO MUCH");
        String empty = "if(1<2){}";
        workIs("fun m(){" + Edge.whiles(10) + "}", 2046);
        workIs("fun m(){" + work3994() + "}", 3994);
        workIs("fun m(){" + work3994() + Edge.whiles(2) + "}", 4000);
        workIs("fun m(){" + empty.repeat(6) + work3994() + "}", 4000);
        for (String more : new String[] {empty, "var x;", "while(2<1){}", "assert(2<1);"}) {
            EDGE.fresh();
            EDGE.due("end() with " + more, EDGE.desk.load("fun m(){" + work3994() + empty.repeat(6) + more + "}"), 3);
            EDGE.due("told(2)", EDGE.desk.told(2), 0);
        }
        EDGE.fresh();
        EDGE.due("end() with work of 4001", EDGE.desk.load("fun m(){" + empty.repeat(7) + work3994() + "}"), 3);
        // what has nothing before it is no work, behind the 4000th statement too
        workIs("fun m(){" + work3994() + empty.repeat(4) + "if(2<1){" + work3994() + "}assert(2<1);" + empty.repeat(50) + "}", 4000);
    }

    private static void tooMuch() {
        EDGE.terms(EACH, "then there is NOTHING and no alarm anywhere, and nothing is claimed at any point");
        EDGE.fresh();
        String text = "fun m(){var x=1/any;var t[2];" + work3994() + Edge.whiles(2) + "x=1/x;}";
        EDGE.due("end()", EDGE.desk.load(text), 3);
        int points = EDGE.desk.points();
        EDGE.due("points()", points, 52);
        for (int p = 0; p < points; p++) {
            EDGE.due("point(" + p + ", 2)", EDGE.desk.point(p, 2), 0);
            EDGE.due("point(" + p + ", 5)", EDGE.desk.point(p, 5), 0);
            EDGE.due("point(" + p + ", 6)", EDGE.desk.point(p, 6), 0);
        }
        EDGE.known(0, "nothing");
        EDGE.claimed(points - 1, "nothing");
        EDGE.due("point(2, 3), slots being there all the same", EDGE.desk.point(2, 3), 1);
        EDGE.due("point(2, 4), slots being there all the same", EDGE.desk.point(2, 4), 1);
        EDGE.due("bound()", EDGE.desk.bound(false, 2, 0, 1, 0, 1), -(1L << 40));
        EDGE.due("range()", EDGE.desk.range(false, 2, 0, true), -(1L << 40));
        EDGE.due("end() of another text", EDGE.desk.load("fun m(){var x;}"), 0);
        EDGE.due("point(1, 5)", EDGE.desk.point(1, 5), 1);
        EDGE.due("told(2)", EDGE.desk.told(2), 1);
    }
}
