/** Paragraphs of 'Terms' on CONDs, on if and assert, and on statements before which there is NOTHING, at their edges. */
public final class CondEdgeTest {
    private static final Edge EDGE = new Edge("CondEdgeTest");
    private static final String COND = "A COND splits";
    private static final String IF = "if: both BLOCKs";
    private static final String INTS = "-2147483648..2147483647";

    public static void main(String[] args) {
        oneNumberAndAnother();
        endsOfInts();
        lessAndNotLess();
        rangesWithoutAValue();
        leastOfTheForm();
        eachAndEachTwo();
        byRangesFromBefore();
        likewise();
        equal();
        unequal();
        turnedRound();
        whereTheFirstHolds();
        notAtAll();
        joinsOfBoth();
        twoBlocks();
        withoutElse();
        asserts();
        statementsBehindNothing();
        EDGE.finish();
    }

    private static void split(String vars, String cond, String holds, String fails) {
        String text = "fun m(){" + vars + "if(" + cond + "){assert(1<2);}else{assert(1<2);}}";
        EDGE.program(text);
        int points = EDGE.desk.points();
        EDGE.due("where it holds: " + text, EDGE.desk.line(false, points - 3), holds);
        EDGE.due("where it fails: " + text, EDGE.desk.line(false, points - 2), fails);
        EDGE.due("inductive() of " + text, EDGE.desk.inductive(), -1);
    }

    private static boolean holds(String relation, int x, int c) {
        switch (relation) {
            case "<":
                return x < c;
            case "<=":
                return x <= c;
            case ">":
                return x > c;
            case ">=":
                return x >= c;
            case "==":
                return x == c;
            default:
                return x != c;
        }
    }

    /** The least range in which those of 0 .. 9 are for which the relation holds, or fails. */
    private static String where(String relation, int c, boolean holds) {
        int least = 10;
        int greatest = -1;
        for (int x = 0; x <= 9; x++) {
            if (holds(relation, x, c) == holds) {
                least = Math.min(least, x);
                greatest = Math.max(greatest, x);
            }
        }
        return greatest < 0 ? "nothing" : "x in " + least + ".." + greatest;
    }

    private static void oneNumberAndAnother() {
        EDGE.terms(COND, "A COND splits what is known into what is known where it HOLDS and where it FAILS.");
        for (String relation : new String[] {"<", "<=", ">", ">=", "==", "!="}) {
            for (int c : new int[] {-2, -1, 0, 1, 2, 4, 8, 9, 10, 11}) {
                split("var x=any(0,9);", "x" + relation + c, where(relation, c, true), where(relation, c, false));
                split("var x=any(0,9);", "x-" + (c + 20) + relation + "-20", where(relation, c, true), where(relation, c, false));
            }
        }
    }

    private static void endsOfInts() {
        EDGE.terms(COND, "A COND splits what is known into what is known where it HOLDS and where it FAILS.");
        String x = "var x=any;";
        String all = "x in " + INTS;
        String least = "x in -2147483648..-2147483648";
        String notLeast = "x in -2147483647..2147483647";
        String greatest = "x in 2147483647..2147483647";
        String notGreatest = "x in -2147483648..2147483646";
        split(x, "x<-2147483647-1", "nothing", all);
        split(x, "x<=-2147483647-1", least, notLeast);
        split(x, "x<-2147483647", least, notLeast);
        split(x, "x>-2147483647-1", notLeast, least);
        split(x, "x>=-2147483647-1", all, "nothing");
        split(x, "x==-2147483647-1", least, notLeast);
        split(x, "x!=-2147483647-1", notLeast, least);
        split(x, "x>2147483647", "nothing", all);
        split(x, "x>=2147483647", greatest, notGreatest);
        split(x, "x<2147483647", notGreatest, greatest);
        split(x, "x<=2147483647", all, "nothing");
        split(x, "x==2147483647", greatest, notGreatest);
        split(x, "x!=2147483647", notGreatest, greatest);
        split(x, "x<any", notGreatest, all);
        split(x, "any<x", notLeast, all);
    }

    private static void lessAndNotLess() {
        EDGE.terms(COND, "the form f is that of the first one with that of the second one, turned round, behind it; f <= -1 holds, -f <= 0 "
            + "fails");
        String xy = "var x=any(0,9);var y=any(0,5);";
        split(xy, "x<y", "x in 0..4, y in 1..5, x - y <= -1", "x in 0..9, y in 0..5, -x + y <= 0");
        split(xy, "y<x", "x in 1..9, y in 0..5, -x + y <= -1", "x in 0..5, y in 0..5, x - y <= 0");
        split(xy, "x+y<1", "x in 0..0, y in 0..0", "x in 0..9, y in 0..5, -x - y <= -1");
        split(xy, "x+y<0", "nothing", "x in 0..9, y in 0..5");
        split(xy, "x+y<14", "x in 0..9, y in 0..5, x + y <= 13", "x in 9..9, y in 5..5");
        split(xy, "x+y<15", "x in 0..9, y in 0..5", "nothing");
        split(xy, "x-3<y-3", "x in 0..4, y in 1..5, x - y <= -1", "x in 0..9, y in 0..5, -x + y <= 0");
        split(xy, "-y<-x", "x in 0..4, y in 1..5, x - y <= -1", "x in 0..9, y in 0..5, -x + y <= 0");
        split(xy, "3-(y-x)<3", "x in 0..4, y in 1..5, x - y <= -1", "x in 0..9, y in 0..5, -x + y <= 0");
        split(xy, "0<y-(x-(0))", "x in 0..4, y in 1..5, x - y <= -1", "x in 0..9, y in 0..5, -x + y <= 0");
        // what is bound to x is bounded with it, where it holds and where it fails
        split("var y=any(0,9);var x=y+1;", "x<5", "y in 0..3, x in 1..4, y - x <= -1, -y + x <= 1", "y in 4..9, x in 5..10, y - x <= -1, "
            + "-y + x <= 1");
        split("var y=any(0,9);var x=y+1;var z=any(0,9);", "x<5&&z<5", "y in 0..3, x in 1..4, z in 0..4, y - x <= -1, -y + x <= 1",
            "y in 0..9, x in 1..10, z in 0..9, y - x <= -1, -y + x <= 1, -y - z <= -4, -x - z <= -5");
    }

    private static void rangesWithoutAValue() {
        EDGE.terms(COND, "first the ranges of both (if one is nothing: NOTHING twice)");
        String x = "var x=any(0,9);var t[2];";
        for (String cond : new String[] {"1/0<x", "x<1/0", "t[2]==x", "x!=t[2]", "2147483647+1>x", "x>=-(-2147483647-1)"}) {
            split(x, cond, "nothing", "nothing");
            split(x, "!" + cond, "nothing", "nothing");
        }
        EDGE.program("fun m(){" + x + "assert(1/0<t[2]);assert(1<2);}");
        EDGE.due("alarms", EDGE.desk.point(2, 2), 2);
        EDGE.program("fun m(){" + x + "assert(t[2]<1/0);assert(1<2);}");
        EDGE.due("alarms", EDGE.desk.point(2, 2), 4);
        EDGE.program("fun m(){" + x + "if(1/any<t[any]){}}");
        EDGE.due("alarms", EDGE.desk.point(2, 2), 6);
    }

    private static void leastOfTheForm() {
        EDGE.terms(COND, "To MEET f <= c: if the least one of the range of f is above c: NOTHING");
        split("", "any(0,5)<0", "nothing", "all");
        split("", "any(0,5)<1", "all", "all");
        split("", "any(0,5)<5", "all", "all");
        split("", "any(0,5)<6", "all", "nothing");
        split("", "any(0,5)<=-1", "nothing", "all");
        split("", "any(0,5)<=0", "all", "all");
        split("", "any(0,5)<=4", "all", "all");
        split("", "any(0,5)<=5", "all", "nothing");
        split("var t[3];t[1]=7;", "t[0]<0", "nothing", "t[] in 0..7");
        split("var t[3];t[1]=7;", "t[0]<8", "t[] in 0..7", "nothing");
        split("var t[3];t[1]=7;", "t[0]<7", "t[] in 0..7", "t[] in 0..7");
        split("var x=any(0,9);var y=9-x;", "x+y<9", "nothing", "x in 0..9, y in 0..9, x + y <= 9, -x - y <= -9");
        split("var x=any(0,9);var y=9-x;", "x+y<10", "x in 0..9, y in 0..9, x + y <= 9, -x - y <= -9", "nothing");
        split("var x=any(0,9);", "x-x<0", "x in 0..9", "x in 0..9");
    }

    private static void eachAndEachTwo() {
        EDGE.terms(COND, "for each free part of f, and each two, the greatest value of these is no more than c less the least one of the "
            + "others' range");
        String xyz = "var x=any(0,9);var y=any(0,9);var z=any(0,9);";
        split(xyz, "x+y+z<=4", "x in 0..4, y in 0..4, z in 0..4, x + y <= 4, x + z <= 4, y + z <= 4", "x in 0..9, y in 0..9, z in 0..9");
        split(xyz, "x+y+z<=0", "x in 0..0, y in 0..0, z in 0..0", "x in 0..9, y in 0..9, z in 0..9");
        split(xyz, "x+y+z<=26", "x in 0..9, y in 0..9, z in 0..9", "x in 9..9, y in 9..9, z in 9..9");
        split(xyz, "x+y-z<=-8", "x in 0..1, y in 0..1, z in 8..9, x + y <= 1, x - z <= -8, y - z <= -8",
            "x in 0..9, y in 0..9, z in 0..9");
        split(xyz, "x+2*y<=4", "x in 0..4, y in 0..9, z in 0..9", "x in 0..9, y in 0..9, z in 0..9");
        split(xyz, "x+x<=4", "x in 0..9, y in 0..9, z in 0..9", "x in 0..9, y in 0..9, z in 0..9");
        split(xyz, "x+y<=x+2", "x in 0..9, y in 0..9, z in 0..9", "x in 0..9, y in 0..9, z in 0..9");
        split(xyz, "x+any(2,3)<=z", "x in 0..7, y in 0..9, z in 2..9, x - z <= -2", "x in 0..9, y in 0..9, z in 0..9, -x + z <= 2");
    }

    private static void byRangesFromBefore() {
        EDGE.terms(COND, "all by ranges from before");
        // x + y + z + w <= 3 leaves each of them 3 at most; then, by ranges from before, -(..) <= -3 bounds none of them
        String four = "var x=any(0,9);var y=any(0,9);var z=any(0,9);var w=any(0,9);";
        split(four, "x+y+z+w==3", "x in 0..3, y in 0..3, z in 0..3, w in 0..3, x + y <= 3, x + z <= 3, x + w <= 3, y + z <= 3, y + w <= 3, "
            + "z + w <= 3", "x in 0..9, y in 0..9, z in 0..9, w in 0..9");
        split(four, "x+y+z+w==0", "x in 0..0, y in 0..0, z in 0..0, w in 0..0", "x in 0..9, y in 0..9, z in 0..9, w in 0..9");
    }

    private static void likewise() {
        EDGE.terms(COND, "<=, > and >= likewise");
        String xy = "var x=any(0,9);var y=any(0,5);";
        split(xy, "x<=y", "x in 0..5, y in 0..5, x - y <= 0", "x in 1..9, y in 0..5, -x + y <= -1");
        split(xy, "x>y", "x in 1..9, y in 0..5, -x + y <= -1", "x in 0..5, y in 0..5, x - y <= 0");
        split(xy, "x>=y", "x in 0..9, y in 0..5, -x + y <= 0", "x in 0..4, y in 1..5, x - y <= -1");
        split(xy, "x>=y+10", "nothing", "x in 0..9, y in 0..5");
        split(xy, "x>=y+9", "x in 9..9, y in 0..0", "x in 0..9, y in 0..5, x - y <= 8");
        split(xy, "x<=y-6", "nothing", "x in 0..9, y in 0..5");
        split(xy, "x<=y-5", "x in 0..0, y in 5..5", "x in 0..9, y in 0..5, -x + y <= 4");
    }

    private static void equal() {
        EDGE.terms(COND, "== is met by f <= 0 and -f <= 0, both by ranges from before");
        String xy = "var x=any(0,9);var y=any(0,5);";
        split(xy, "x==y", "x in 0..5, y in 0..5, x - y <= 0, -x + y <= 0", "x in 0..9, y in 0..5");
        split(xy, "x==y+9", "x in 9..9, y in 0..0", "x in 0..9, y in 0..5, x - y <= 8");
        split(xy, "x==y+10", "nothing", "x in 0..9, y in 0..5");
        split(xy, "x==y-5", "x in 0..0, y in 5..5", "x in 0..9, y in 0..5, -x + y <= 4");
        split(xy, "x==y-6", "nothing", "x in 0..9, y in 0..5");
        split(xy, "x+y==14", "x in 9..9, y in 5..5", "x in 0..9, y in 0..5, x + y <= 13");
        split(xy, "x==x", "x in 0..9, y in 0..5", "x in 0..9, y in 0..5");
    }

    private static void unequal() {
        EDGE.terms(COND, "and != so: if the range of f is 0 alone: NOTHING; if it begins with 0: by -f <= -1; if it ends with 0: by f <= -1; "
            + "otherwise all is left.");
        split("var x=4;", "x!=4", "nothing", "x in 4..4");
        split("var x=4;", "x!=x", "nothing", "x in 4..4");
        split("var x=4;", "x!=5", "x in 4..4", "nothing");
        split("var x=any(0,9);var y=x;", "x!=y", "nothing", "x in 0..9, y in 0..9, x - y <= 0, -x + y <= 0");
        split("var x=any(0,9);", "x!=x", "x in 0..9", "x in 0..9");
        split("var x=any(0,9);", "x!=0", "x in 1..9", "x in 0..0");
        split("var x=any(0,9);", "0!=x", "x in 1..9", "x in 0..0");
        split("var x=any(0,9);", "x!=9", "x in 0..8", "x in 9..9");
        split("var x=any(0,9);", "x!=1", "x in 0..9", "x in 1..1");
        split("var x=any(0,9);", "x!=8", "x in 0..9", "x in 8..8");
        split("var x=any(0,9);", "x!=-1", "x in 0..9", "nothing");
        split("var x=any(0,9);", "x!=10", "x in 0..9", "nothing");
        split("var x=any(0,9);var y=any(9,12);", "x!=y", "x in 0..9, y in 9..12, x - y <= -1", "x in 9..9, y in 9..9");
        split("var x=any(0,9);var y=any(9,12);", "y!=x", "x in 0..9, y in 9..12, x - y <= -1", "x in 9..9, y in 9..9");
        split("var x=any(0,9);var y=any(8,12);", "x!=y", "x in 0..9, y in 8..12", "x in 8..9, y in 8..9, x - y <= 0, -x + y <= 0");
        split("", "any(0,5)!=0", "all", "all");
        split("", "any(0,0)!=0", "nothing", "all");
        split("", "any(1,5)!=0", "all", "nothing");
    }

    private static void turnedRound() {
        EDGE.terms(COND, "! turns both round.");
        String x = "var x=any(0,9);";
        split(x, "!x<5", "x in 5..9", "x in 0..4");
        split(x, "!!x<5", "x in 0..4", "x in 5..9");
        split(x, "!!!x<5", "x in 5..9", "x in 0..4");
        split(x, "!x!=9", "x in 9..9", "x in 0..8");
        split(x, "![x<5&&x>2]", "x in 0..9", "x in 3..4");
        split(x, "![x<5||x>7]", "x in 5..7", "x in 0..9");
    }

    private static void whereTheFirstHolds() {
        EDGE.terms(COND, "A && B: B is looked at where A holds");
        String xt = "var x=any(-9,9);var t[5];";
        int[] alarms = {0, 2, 0, 2, 0, 4, 0, 4, 4};
        String[] conds = {"x>0&&1/x<5", "x>=0&&1/x<5", "x<0&&1/x<5", "x<=0&&1/x<5", "x>=0&&x<5&&t[x]<1", "x>=0&&x<=5&&t[x]<1",
            "x<0||x>4||t[x]<1", "x<0||x>5||t[x]<1", "x<-1||x>4||t[x]<1"};
        for (int k = 0; k < conds.length; k++) {
            EDGE.program("fun m(){" + xt + "if(" + conds[k] + "){}}");
            EDGE.due("alarms of " + conds[k], EDGE.desk.point(2, 2), alarms[k]);
        }
    }

    private static void notAtAll() {
        EDGE.terms(COND, "(not at all if that is NOTHING)");
        String[] conds = {"2<1&&1/0<1", "1<2||1/0<1", "x>9&&1/x<1", "x<=9||1/x<1", "2<1&&1/0<1&&1/0<1", "[2<1&&1/0<1]||x<1",
            "![1<2||1/0<1]||x<1", "x<1&&x>1&&1/0<1", "1/0<1&&t[9]<1"};
        int[] alarms = {0, 0, 0, 0, 0, 0, 0, 0, 2};
        for (int k = 0; k < conds.length; k++) {
            EDGE.program("fun m(){var x=any(-9,9);var t[5];if(" + conds[k] + "){}}");
            EDGE.due("alarms of " + conds[k], EDGE.desk.point(2, 2), alarms[k]);
        }
        String x = "var x=any(0,9);";
        split(x, "2<1&&1/0<1", "nothing", "x in 0..9");
        split(x, "1<2||1/0<1", "x in 0..9", "nothing");
        split(x, "x<3&&1/0<1", "nothing", "x in 3..9");
        split(x, "x<3||1/0<1", "x in 0..2", "nothing");
        split(x, "1/0<1&&x<3", "nothing", "nothing");
        split(x, "1/0<1||x<3", "nothing", "nothing");
    }

    private static void joinsOfBoth() {
        EDGE.terms(COND, "where both hold; the join of where A fails and where B, looked at so, fails. || likewise, turned round.");
        String x = "var x=any(0,9);";
        split(x, "x>2&&x<5", "x in 3..4", "x in 0..9");
        split(x, "x>2&&x<9", "x in 3..8", "x in 0..9");
        split(x, "x>2&&x<10", "x in 3..9", "x in 0..2");
        split(x, "x>2&&x<3", "nothing", "x in 0..9");
        split(x, "x<3||x>4", "x in 0..9", "x in 3..4");
        split(x, "x<3||x>8", "x in 0..9", "x in 3..8");
        split(x, "x<3||x>9", "x in 0..2", "x in 3..9");
        split(x, "x<3||x>2", "x in 0..9", "nothing");
        split(x, "x>1&&x>2&&x>3", "x in 4..9", "x in 0..3");
        split(x, "x<1||x<2||x<3", "x in 0..2", "x in 3..9");
        split(x, "x<2||x>3&&x<6", "x in 0..5", "x in 2..9");
        split(x, "x>3&&x<6||x<2", "x in 0..5", "x in 2..9");
    }

    private static void twoBlocks() {
        EDGE.terms(IF, "if: both BLOCKs, where COND holds, and where it fails; then the join of what is known at their ends");
        EDGE.program("fun m(){var x=any(0,9);if(x<5){x=x+20;}else{x=x-20;}x=x;}");
        EDGE.known(2, "x in 0..4");
        EDGE.known(3, "x in 5..9");
        EDGE.known(4, "x in -15..24");
        EDGE.program("fun m(){var x=any(0,9);if(x<0){x=1/0;}else{x=x-20;}x=x;}");
        EDGE.known(2, "nothing");
        EDGE.due("alarms where COND does not hold", EDGE.desk.point(2, 2), 0);
        EDGE.known(4, "x in -20..-11");
        EDGE.program("fun m(){var x=any(0,9);if(x<10){x=x+20;}else{x=1/0;}x=x;}");
        EDGE.known(3, "nothing");
        EDGE.due("alarms where COND does not fail", EDGE.desk.point(3, 2), 0);
        EDGE.known(4, "x in 20..29");
        EDGE.program("fun m(){var x=any(0,9);if(x<5){}else{}x=x;}");
        EDGE.known(2, "x in 0..9");
    }

    private static void withoutElse() {
        EDGE.terms(IF, "(without else: and of where it fails)");
        EDGE.program("fun m(){var x=any(0,9);if(x<5){x=7;}x=x;}");
        EDGE.known(3, "x in 5..9");
        EDGE.program("fun m(){var x=any(0,9);if(x<5){x=1/0;}x=x;}");
        EDGE.known(3, "x in 5..9");
        EDGE.program("fun m(){var x=any(0,9);if(x<10){x=7;}x=x;}");
        EDGE.known(3, "x in 7..7");
        EDGE.program("fun m(){var x=any(0,9);if(x<0){x=7;}x=x;}");
        EDGE.known(3, "x in 0..9");
        EDGE.program("fun m(){var x=any(0,9);if(x<10){x=1/0;}x=x;}");
        EDGE.known(3, "nothing");
    }

    private static void asserts() {
        EDGE.terms(IF, "assert: where it holds; alarm 8 unless there is NOTHING where it fails.");
        String[] conds = {"x<9", "x<10", "x<0", "x>=0", "x>=1", "x!=10", "x!=9", "x==x", "1/0<1", "1/x<9", "1/x<9||x==0", "x==0||1/x<9"};
        int[] alarms = {8, 0, 8, 0, 8, 0, 8, 8, 2, 2, 2, 0};
        String[] behind = {"x in 0..8", "x in 0..9", "nothing", "x in 0..9", "x in 1..9", "x in 0..9", "x in 0..8", "x in 0..9", "nothing",
            "x in 0..9", "x in 0..9", "x in 0..9"};
        for (int k = 0; k < conds.length; k++) {
            EDGE.program("fun m(){var x=any(0,9);assert(" + conds[k] + ");x=x;}");
            EDGE.due("alarms of assert(" + conds[k] + ")", EDGE.desk.point(1, 2), alarms[k]);
            EDGE.due("behind assert(" + conds[k] + ")", EDGE.desk.line(false, 2), behind[k]);
        }
    }

    private static void statementsBehindNothing() {
        EDGE.terms(IF, "A statement before which there is NOTHING has no alarms, and NOTHING behind it and in it.");
        EDGE.program("fun f(a){a=1/0;return 1/a;}fun m(){var x=any;var t[2];assert(x!=x&&2<1);var y=1/0;x=x+1;t[x]=1/x;f(x);x=f(x);"
            + "if(1/x<1){x=1/0;}else{x=1/0;}while(1/x<1){x=1/0;}assert(1/x<1);}");
        EDGE.due("alarms of the assert", EDGE.desk.point(2, 2), 8);
        for (int p = 3; p < EDGE.desk.points(); p++) {
            EDGE.due("point(" + p + ", 2)", EDGE.desk.point(p, 2), 0);
            EDGE.due("point(" + p + ", 5)", EDGE.desk.point(p, 5), 0);
            EDGE.due("point(" + p + ", 6)", EDGE.desk.point(p, 6), 0);
        }
        EDGE.due("told(2)", EDGE.desk.told(2), 3);
        EDGE.due("inductive()", EDGE.desk.inductive(), -1);
    }
}
