/** Promises 7, 8, 21 and 22: what the analysis knows, by bounds, ranges and lines. */
public final class KnownTest {
    private static final Trial TRIAL = new Trial("KnownTest");
    private static final long NO_BOUND = -(1L << 40);

    public static void main(String[] args) {
        bounds();
        ranges();
        lines();
        sums();
        assignments();
        conditions();
        blocks();
        calls();
        whiles();
        tooMuch();
        TRIAL.finish();
    }

    private static void bound(int p, int x, int s, int y, int t, long want) {
        String call = "bound(false, " + p + ", " + x + ", " + s + ", " + y + ", " + t + ")";
        TRIAL.due(call, TRIAL.desk.bound(false, p, x, s, y, t), want);
        TRIAL.due(call + " of the claim", TRIAL.desk.bound(true, p, x, s, y, t), want);
    }

    private static void bounds() {
        TRIAL.program("fun m(){var x=any(-3,10);var y=x+any(0,2);var z=any;assert(y>0);x=1/0;z=1;}");
        bound(4, 0, 1, 0, 1, 10);
        bound(4, 0, -1, 0, -1, 1);
        bound(4, 1, 1, 1, 1, 12);
        bound(4, 1, -1, 1, -1, -1);
        bound(4, 2, 1, 2, 1, 2147483647);
        bound(4, 2, -1, 2, -1, 2147483648L);
        bound(4, 0, 1, 1, -1, 0);
        bound(4, 1, -1, 0, 1, 0);
        bound(4, 0, -1, 1, 1, 2);
        bound(4, 1, 1, 0, -1, 2);
        bound(4, 0, 1, 1, 1, 22);
        bound(4, 0, -1, 1, -1, 0);
        bound(4, 0, 1, 2, -1, 2147483658L);
        bound(4, 2, -1, 0, -1, 2147483649L);
        bound(3, 0, -1, 0, -1, 3);
        bound(4, 0, 1, 0, -1, NO_BOUND);
        bound(4, 0, -1, 0, 1, NO_BOUND);
        bound(4, 0, 0, 1, 1, NO_BOUND);
        bound(4, 0, 1, 1, 2, NO_BOUND);
        bound(4, 0, -2, 1, 1, NO_BOUND);
        bound(4, 0, 1, 3, 1, NO_BOUND);
        bound(4, 3, 1, 3, 1, NO_BOUND);
        bound(4, -1, 1, 0, 1, NO_BOUND);
        bound(0, 0, 1, 0, 1, NO_BOUND);
        bound(5, 0, 1, 0, 1, NO_BOUND);
        bound(-1, 0, 1, 0, 1, NO_BOUND);
        bound(7, 0, 1, 0, 1, NO_BOUND);
        bound(Integer.MAX_VALUE, Integer.MAX_VALUE, 1, Integer.MIN_VALUE, 1, NO_BOUND);
        TRIAL.program("fun m(){var x=any;var y=any;x=1;}");
        bound(2, 0, 1, 1, 1, 4294967294L);
        bound(2, 0, 1, 1, -1, 4294967295L);
        bound(2, 0, -1, 1, -1, 4294967296L);
    }

    private static void range(int p, int a, long least, long greatest) {
        for (int claims = 0; claims < 2; claims++) {
            String call = "range(" + (claims == 1) + ", " + p + ", " + a + ", ";
            TRIAL.due(call + "false)", TRIAL.desk.range(claims == 1, p, a, false), least);
            TRIAL.due(call + "true)", TRIAL.desk.range(claims == 1, p, a, true), greatest);
        }
    }

    private static void ranges() {
        TRIAL.program("fun m(){var a[1];var b[2];a[0]=5;b[0]=5;a[0]=any(-2,3);b[1]=any(-2,3);b[0]=1/0;a[0]=1;}");
        range(2, 0, 0, 0);
        range(2, 1, 0, 0);
        range(3, 0, 5, 5);
        range(4, 1, 0, 5);
        range(5, 0, -2, 3);
        range(6, 1, -2, 5);
        range(6, 2, NO_BOUND, NO_BOUND);
        range(6, -1, NO_BOUND, NO_BOUND);
        range(7, 0, NO_BOUND, NO_BOUND);
        range(0, 0, NO_BOUND, NO_BOUND);
        range(-1, 0, NO_BOUND, NO_BOUND);
        range(9, 0, NO_BOUND, NO_BOUND);
        range(8, 0, NO_BOUND, NO_BOUND);
    }

    private static void lines() {
        TRIAL.program("fun m(){var x=any(-3,10);var y_2=x-1;var t[3];x=1/0;}");
        TRIAL.known(0, "all");
        TRIAL.known(1, "x in -3..10");
        TRIAL.known(3, "x in -3..10, y_2 in -4..9, x - y_2 <= 1, -x + y_2 <= -1, t[] in 0..0");
        TRIAL.known(4, "nothing");
        TRIAL.due("shown(0)", TRIAL.desk.shown(0), 'n');
        TRIAL.due("shown(6)", TRIAL.desk.shown(6), 'g');
        TRIAL.due("shown(7)", TRIAL.desk.shown(7), -1);
        TRIAL.due("shown(-1)", TRIAL.desk.shown(-1), -1);
        TRIAL.due("show(false, 5)", TRIAL.desk.show(false, 5), -1);
        TRIAL.due("show(true, -1)", TRIAL.desk.show(true, -1), -1);
        TRIAL.load("fun m(){}");
        TRIAL.desk.run(3);
        TRIAL.due("shown(0), the line having stayed", TRIAL.desk.shown(0), 'n');
        TRIAL.due("show(true, 0)", TRIAL.desk.show(true, 0), 3);
        TRIAL.due("shown(3)", TRIAL.desk.shown(3), -1);
        TRIAL.program("fun m(){var a[2];var b[3];b[1]=-7;}");
        TRIAL.known(2, "a[] in 0..0, b[] in 0..0");
        TRIAL.program("fun f(x){x=1;}fun m(){var x=any;var y=any;f(y);}");
        TRIAL.known(3, "x in -2147483648..2147483647, y in -2147483648..2147483647, x in -2147483648..2147483647, "
            + "y - x <= 0, -y + x <= 0");
        TRIAL.program("fun m(){var x=any;var y=any;if(x+y<=-5&&x-y<=-6){x=0;}}");
        TRIAL.known(3, "x in -2147483648..-6, y in -2147483642..2147483643, x + y <= -5, x - y <= -6");
    }

    /** The range of a SUM, as that of a new var z. */
    private static void sum(String sum, String range) {
        String text = "fun m(){var x=any(-3,10);var y=any(-1,1);var t[9];t[0]=7;var z=" + sum + ";z=0;}";
        TRIAL.program(text);
        long least = -TRIAL.desk.bound(false, 5, 2, -1, 2, -1);
        long greatest = TRIAL.desk.bound(false, 5, 2, 1, 2, 1);
        TRIAL.due(text, TRIAL.desk.point(5, 5) == 0 ? "nothing" : least + ".." + greatest, range);
    }

    private static void sums() {
        sum("5", "5..5");
        sum("-x", "-10..3");
        sum("x+y", "-4..11");
        sum("x-y", "-4..11");
        sum("x-x", "0..0");
        sum("(x)-((x))", "0..0");
        sum("x+x", "-6..20");
        sum("x+1-x", "-12..14");
        sum("-x+x", "-13..13");
        sum("x*x", "-30..100");
        sum("x*y", "-10..10");
        sum("any", "-2147483648..2147483647");
        sum("any(-7,3)", "-7..3");
        sum("any(2147483647,2147483647)", "2147483647..2147483647");
        sum("t[0]", "0..7");
        sum("t[x]", "0..7");
        sum("t[t[3]]", "0..7");
        sum("t[9]", "nothing");
        sum("t[-1-t[0]]", "nothing");
        sum("x/2", "-1..5");
        sum("x/-2", "-5..1");
        sum("x/y", "-10..10");
        sum("x/any(2,5)", "-1..5");
        sum("x/any(-5,-2)", "-5..1");
        sum("x/any(-5,2)", "-10..10");
        sum("x/any(0,5)", "-3..10");
        sum("x/any(-5,0)", "-10..3");
        sum("x/(y-y)", "nothing");
        sum("5%0", "nothing");
        sum("x%4", "-3..3");
        sum("x%-4", "-3..3");
        sum("x%3", "-2..2");
        sum("x%100", "-3..10");
        sum("t[0]%5", "0..4");
        sum("(0-t[0])%5", "-4..0");
        sum("5%10", "0..5");
        sum("x%any(-2147483647,0)", "-3..10");
        sum("x%y", "0..0");
        sum("any%any(-1,6)", "-5..5");
        sum("2147483647+x", "2147483644..2147483647");
        sum("2147483647+any(1,9)", "nothing");
        sum("-2147483647-1", "-2147483648..-2147483648");
        sum("-2147483647-x", "-2147483648..-2147483644");
        sum("-(-2147483647-1)", "nothing");
        sum("(-2147483647-1)/-1", "nothing");
        sum("(-2147483647-1)/any(-2,-1)", "1073741824..2147483647");
        sum("(-2147483647-1)%-1", "0..0");
        sum("any*any", "-2147483648..2147483647");
        sum("any(65536,65537)*any(32768,40000)", "nothing");
        TRIAL.program("fun m(){var x=any(0,9);var y=9-x;var z=x+y;var w=x+y+1;var v=y+1+x;var u=(x)+(y);var s=1+x+y;}");
        TRIAL.due("z", TRIAL.desk.bound(false, 3, 2, 1, 2, 1), 9);
        TRIAL.due("w", TRIAL.desk.bound(false, 4, 3, 1, 3, 1), 10);
        TRIAL.due("-w", TRIAL.desk.bound(false, 4, 3, -1, 3, -1), -10);
        // by the range of the SUM 19, but 2 v is (v - x) + (v - y) + (x + y), and so 10 + 10 + 9 at most
        TRIAL.due("v", TRIAL.desk.bound(false, 5, 4, 1, 4, 1), 14);
        TRIAL.due("u", TRIAL.desk.bound(false, 6, 5, 1, 5, 1), 9);
    }

    /** What is known behind a statement, with x in 0 .. 10, y in 0 .. 5 and z in -3 .. 3 before it. */
    private static void behind(String statement, String want) {
        String text = "fun m(){var x=any(0,10);var y=any(0,5);var z=any(-3,3);" + statement + "assert(1<2);}";
        TRIAL.program(text);
        TRIAL.due(text, TRIAL.line(false, TRIAL.desk.points() - 2), want);
    }

    private static void assignments() {
        behind("x=y;", "x in 0..5, y in 0..5, z in -3..3, x - y <= 0, -x + y <= 0");
        behind("x=-y;", "x in -5..0, y in 0..5, z in -3..3, x + y <= 0, -x - y <= 0");
        behind("x=y+1;", "x in 1..6, y in 0..5, z in -3..3, x - y <= 1, -x + y <= -1");
        behind("x=4-y;", "x in -1..4, y in 0..5, z in -3..3, x + y <= 4, -x - y <= -4");
        behind("x=x+1;", "x in 1..11, y in 0..5, z in -3..3");
        behind("x=3-x;", "x in -7..3, y in 0..5, z in -3..3");
        behind("y=x;x=x+1;", "x in 1..11, y in 0..10, z in -3..3, x - y <= 1, -x + y <= -1");
        behind("y=x;x=3-x;", "x in -7..3, y in 0..10, z in -3..3, x + y <= 3, -x - y <= -3");
        behind("y=x;x=x+any(0,2);", "x in 0..12, y in 0..10, z in -3..3, x - y <= 2, -x + y <= 0");
        behind("x=x+y;", "x in 0..15, y in 0..5, z in -3..3, x - y <= 10, -x + y <= 0");
        behind("x=y-x;", "x in -10..5, y in 0..5, z in -3..3, x - y <= 0, -x + y <= 10");
        behind("x=y+z;", "x in -3..8, y in 0..5, z in -3..3, x - y <= 3, -x + y <= 3, x - z <= 5, -x + z <= 0");
        behind("x=y-z;", "x in -3..8, y in 0..5, z in -3..3, x - y <= 3, -x + y <= 3, x + z <= 5, -x - z <= 0");
        behind("x=x+x;", "x in 0..20, y in 0..5, z in -3..3");
        behind("x=x+1-x;", "x in -9..11, y in 0..5, z in -3..3");
        behind("x=2*y;", "x in 0..10, y in 0..5, z in -3..3");
        behind("x=y*1+z;", "x in -3..8, y in 0..5, z in -3..3, x - z <= 5, -x + z <= 0");
        behind("x=-(y-(z-1));", "x in -9..2, y in 0..5, z in -3..3, x + y <= 2, -x - y <= 4, x - z <= -1, -x + z <= 6");
        behind("z=x;y=x-z;x=0;", "x in 0..0, y in 0..0, z in 0..10");
        behind("x=any;x=x+1;", "x in -2147483647..2147483647, y in 0..5, z in -3..3");
        behind("x=any;y=x;x=x+1;", "x in -2147483647..2147483647, y in -2147483648..2147483646, z in -3..3, "
            + "x - y <= 1, -x + y <= -1");
        behind("x=2147483647;x=x+1;", "nothing");
        behind("var w;", "x in 0..10, y in 0..5, z in -3..3, w in 0..0");
        behind("var w=x-y;", "x in 0..10, y in 0..5, z in -3..3, w in -5..10, x - w <= 5, -x + w <= 0, y + w <= 10, "
            + "-y - w <= 0");
        behind("assert(x+y==z);x=x+y+z;", "x in 0..6, y in 0..3, z in 0..3, -x + y <= 0, x - z <= 3, -x + z <= 0, "
            + "y - z <= 0");
    }

    /** What is known where a COND holds, and where it fails. */
    private static void split(String cond, String holds, String fails) {
        String text = "fun m(){var x=any(0,10);var y=any(0,5);if(" + cond + "){assert(1<2);}else{assert(1<2);}}";
        TRIAL.program(text);
        TRIAL.due(text + " holds", TRIAL.line(false, 3), holds);
        TRIAL.due(text + " fails", TRIAL.line(false, 4), fails);
    }

    private static void conditions() {
        String all = "x in 0..10, y in 0..5";
        split("x<3", "x in 0..2, y in 0..5", "x in 3..10, y in 0..5");
        split("x<=3", "x in 0..3, y in 0..5", "x in 4..10, y in 0..5");
        split("x>3", "x in 4..10, y in 0..5", "x in 0..3, y in 0..5");
        split("x>=3", "x in 3..10, y in 0..5", "x in 0..2, y in 0..5");
        split("3<x", "x in 4..10, y in 0..5", "x in 0..3, y in 0..5");
        split("x==3", "x in 3..3, y in 0..5", all);
        split("x!=3", all, "x in 3..3, y in 0..5");
        split("x==0", "x in 0..0, y in 0..5", "x in 1..10, y in 0..5");
        split("x!=10", "x in 0..9, y in 0..5", "x in 10..10, y in 0..5");
        split("x!=11", all, "nothing");
        split("x-x!=0", all, "x in 0..10, y in 0..5");
        split("x<11", all, "nothing");
        split("x<0", "nothing", all);
        split("x<y", "x in 0..4, y in 1..5, x - y <= -1", "x in 0..10, y in 0..5, -x + y <= 0");
        split("x==y", "x in 0..5, y in 0..5, x - y <= 0, -x + y <= 0", all);
        split("x+y<3", "x in 0..2, y in 0..2, x + y <= 2", "x in 0..10, y in 0..5, -x - y <= -3");
        split("x+y<3*2", "x in 0..5, y in 0..5, x + y <= 5", "x in 1..10, y in 0..5, -x - y <= -6");
        split("x<x+1", all, all);
        split("x<x", "x in 0..10, y in 0..5", all);
        split("2*x<3", all, all);
        split("x+2*y<4", "x in 0..3, y in 0..5", all);
        split("x+x==1", all, all);
        split("x+y==x+1", all, all);
        split("x<3&&y<2", "x in 0..2, y in 0..1", all + ", -x - y <= -2");
        split("x<3||x>7", all, "x in 3..7, y in 0..5");
        split("x<3&&y<2||x>8", all + ", -x + y <= 1", "x in 0..8, y in 0..5, -x - y <= -2");
        split("x<3&&[y<2||x>8]", "x in 0..2, y in 0..1", all + ", -x - y <= -2");
        split("!x<3", "x in 3..10, y in 0..5", "x in 0..2, y in 0..5");
        split("![x<3||y<2]", "x in 3..10, y in 2..5", all + ", x + y <= 11");
        split("!!x<3", "x in 0..2, y in 0..5", "x in 3..10, y in 0..5");
        split("x<3&&x>4", "nothing", all);
        split("x<3&&x>1", "x in 2..2, y in 0..5", all);
        split("1/0<x", "nothing", "nothing");
        split("x<3&&1/0<x", "nothing", "x in 3..10, y in 0..5");
        split("x<3||1/0<x", "x in 0..2, y in 0..5", "nothing");
        split("[x<3&&1/0<x]||x<5", "x in 3..4, y in 0..5", "x in 5..10, y in 0..5");
        TRIAL.program("fun m(){var x=any(0,9);var y=any(0,9);var z=any(0,9);if(x+y+z<=4){x=0;}if(x-y+z==-9){x=0;}}");
        TRIAL.known(4, "x in 0..4, y in 0..4, z in 0..4, x + y <= 4, x + z <= 4, y + z <= 4");
        TRIAL.known(6, "x in 0..0, y in 9..9, z in 0..0");
        TRIAL.program("fun m(){var x=any(0,3);var y=any(0,3);if(x+y==5&&x-y<=0){x=0;}}");
        TRIAL.known(3, "x in 2..2, y in 3..3");
    }

    private static void blocks() {
        TRIAL.program("fun m(){var x=any(-5,5);var y;if(x<0){y=-x;var q=1;}else{y=x;}assert(y>=x);if(x>3){x=1/0;}y=2;}");
        TRIAL.known(4, "x in -5..-1, y in 1..5, x + y <= 0, -x - y <= 0");
        TRIAL.known(6, "x in -5..5, y in 0..5, x - y <= 0, -x - y <= 0");
        TRIAL.due("alarms of the assert", TRIAL.desk.point(6, 2), 0);
        TRIAL.known(9, "x in -5..3, y in 0..5, x - y <= 0, -x - y <= 0");
        TRIAL.program("fun m(){var x=any(0,9);assert(x<5);assert(x<5);assert(x>9);x=1;}");
        TRIAL.due("alarm 8", TRIAL.desk.point(1, 2), 8);
        TRIAL.due("no alarm 8", TRIAL.desk.point(2, 2), 0);
        TRIAL.known(2, "x in 0..4");
        TRIAL.due("alarm 8", TRIAL.desk.point(3, 2), 8);
        TRIAL.known(4, "nothing");
        TRIAL.program("fun m(){var a[3];if(any<0){a[1]=4;}else{a[1]=-4;}a[2]=0;}");
        TRIAL.known(4, "a[] in -4..4");
    }

    private static void calls() {
        TRIAL.program("fun f(a,b){a=a+b;return a-1;}fun m(){var x=any(0,3);var y=any(0,2);x=f(y,x+y);f(x,1/0);y=1;}");
        TRIAL.known(3, "x in 0..3, y in 0..2, a in 0..2, b in 0..5, x - b <= 0, -x + b <= 2, y - a <= 0, -y + a <= 0, "
            + "y - b <= 0, -y + b <= 3, a - b <= 0, -a + b <= 3");
        TRIAL.due("work", TRIAL.desk.told(2), 6);
        TRIAL.due("alarms of the second call", TRIAL.desk.point(5, 2), 2);
        TRIAL.known(6, "nothing");
        TRIAL.known(8, "nothing");
        TRIAL.program("fun f(){return 1+any(0,1);}fun m(){var x=any(0,3);f();x=f();x=x+1;}");
        TRIAL.known(3, "x in 0..3");
        TRIAL.known(5, "x in 1..2");
        TRIAL.program("fun f(a){return a;}fun g(b){f(5);}fun m(){var x=1;g(2);assert(x==1);x=2;}");
        TRIAL.known(2, "x in 1..1, b in 2..2");
        TRIAL.known(3, "x in 1..1, b in 2..2, a in 5..5");
        TRIAL.known(5, "x in 1..1");
        TRIAL.program("fun f(){var a[3];var b[2];a[2]=5;b[any(0,1)]=a[0]+1;return b[1];}fun m(){var t[2];var x;t[0]=-9;x=f();x=0;}");
        TRIAL.known(7, "x in 0..0, t[] in -9..0, a[] in 0..5, b[] in 0..0");
        TRIAL.known(8, "x in 0..0, t[] in -9..0, a[] in 0..5, b[] in 0..6");
        TRIAL.known(9, "x in 0..6, t[] in -9..0");
        TRIAL.program("fun f(){return 1/0;}fun m(){f();var x;}");
        TRIAL.due("alarms of the return", TRIAL.desk.point(1, 2), 2);
        TRIAL.known(2, "nothing");
    }

    private static void whiles() {
        TRIAL.program("fun m(){var n=any(0,1000);var i=0;var j=n;while(i<j){i=i+1;j=j-1;}assert(i+j==n);}");
        TRIAL.known(3, "n in 0..1000, i in 0..500, j in 0..1000, -n + i <= 0, -n + j <= 0, i + j <= 1000, i - j <= 1");
        TRIAL.due("work", TRIAL.desk.told(2), 19);
        TRIAL.program("fun m(){var i;while(i<10){i=i+1;}i=0;}");
        TRIAL.known(1, "i in 0..10");
        TRIAL.known(2, "i in 0..9");
        TRIAL.known(3, "i in 10..10");
        TRIAL.due("work", TRIAL.desk.told(2), 14);
        TRIAL.program("fun m(){var i=10;while(i!=0){i=i-1;}i=0;}");
        TRIAL.known(1, "i in -2147483648..10");
        TRIAL.known(3, "i in 0..0");
        TRIAL.due("alarm 1", TRIAL.desk.point(2, 2), 1);
        TRIAL.program("fun m(){while(1<2){}}");
        TRIAL.known(1, "nothing");
        TRIAL.due("work", TRIAL.desk.told(2), 2);
        TRIAL.program("fun m(){var x=3;while(x<2){x=1/0;}x=4;}");
        TRIAL.known(1, "x in 3..3");
        TRIAL.known(2, "nothing");
        TRIAL.due("no alarm", TRIAL.desk.point(2, 2), 0);
        TRIAL.known(3, "x in 3..3");
        TRIAL.due("work", TRIAL.desk.told(2), 4);
        TRIAL.program("fun m(){var x;var t[3];while(x<4){t[x%3]=x-any(0,1);x=x+2;}x=0;}");
        TRIAL.known(2, "x in 0..5, t[] in -1..2147483647");
        TRIAL.program("fun m(){var i;while(i<100){var j=i;while(j>0){j=j-1;}i=i+1;}i=0;}");
        TRIAL.known(1, "i in 0..100");
        TRIAL.known(3, "i in 0..99, j in 0..99, -i + j <= 0");
        TRIAL.known(4, "i in 1..99, j in 1..99, -i + j <= 0");
        TRIAL.known(6, "i in 100..100");
    }

    private static void tooMuch() {
        TRIAL.fresh();
        StringBuilder text = new StringBuilder("fun m(){var a=any;var t[2];");
        for (int k = 0; k < 8; k++) {
            text.append("while(a<any){t[0]=a;var q=1;while(a<any){a=a+q;");
        }
        String program = text.append("}".repeat(17)).toString();
        TRIAL.due("end of " + program, TRIAL.load(program), 3);
        for (int p = 0; p < TRIAL.desk.points(); p++) {
            TRIAL.due("alarms at " + p, TRIAL.desk.point(p, 2), 0);
            TRIAL.due("known at " + p, TRIAL.desk.point(p, 5), 0);
            TRIAL.due("claimed at " + p, TRIAL.desk.point(p, 6), 0);
            TRIAL.known(p, "nothing");
        }
        TRIAL.due("numbers at 3", TRIAL.desk.point(3, 3), 1);
        TRIAL.due("arrays at 3", TRIAL.desk.point(3, 4), 1);
        bound(3, 0, 1, 0, 1, NO_BOUND);
        range(3, 0, NO_BOUND, NO_BOUND);
    }
}
