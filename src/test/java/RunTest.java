/** Promises 14 to 20: inputs, runs, and what is outside of what is known. */
public final class RunTest {
    private static final Trial TRIAL = new Trial("RunTest");

    public static void main(String[] args) {
        inputs();
        steps();
        sums();
        traps();
        conditions();
        arrays();
        calls();
        callsWithArrays();
        valuesBeforeAndBehind();
        tooMuch();
        TRIAL.finish();
    }

    private static void inputs() {
        TRIAL.fresh();
        for (int k = 1; k <= 1000; k++) {
            TRIAL.due("input()", TRIAL.desk.input(k), k);
        }
        TRIAL.due("input()", TRIAL.desk.input(7), -1);
        TRIAL.due("drop()", TRIAL.desk.drop(), 1000);
        TRIAL.due("drop()", TRIAL.desk.drop(), 0);
        TRIAL.due("input()", TRIAL.desk.input(-2147483648), 1);
        TRIAL.due("input()", TRIAL.desk.input(12), 2);
        TRIAL.due("input()", TRIAL.desk.input(3), 3);
        TRIAL.load("fun m(){var a=any;var b=any(-5,5);var c=any(3,9);var d=any;var e=any(-9,-4);var f=any(-4,4);assert(1<2);}");
        TRIAL.due("run(6)", TRIAL.desk.run(6), 16);
        values(-2147483648, -5, 3, 0, -9, 0);
        ran(6, 6, 3);
        TRIAL.due("drop()", TRIAL.desk.drop(), 3);
        values(-2147483648, -5, 3, 0, -9, 0);
        ran(6, 6, 3);
        TRIAL.due("run(2)", TRIAL.desk.run(2), 16);
        values(0, 0);
        ran(2, 2, 0);
        TRIAL.desk.input(4);
        TRIAL.due("run(1)", TRIAL.desk.run(1), 16);
        TRIAL.due("run(1) from the first input again", TRIAL.desk.run(1), 16);
        values(4);
    }

    private static void values(int... want) {
        for (int x = 0; x < want.length; x++) {
            TRIAL.due("value(" + x + ")", TRIAL.desk.value(x), want[x]);
        }
        TRIAL.due("value(-1)", TRIAL.desk.value(-1), 0);
        for (int x = want.length; x < 14; x++) {
            TRIAL.due("value(" + x + ")", TRIAL.desk.value(x), 0);
        }
        TRIAL.due("outside()", TRIAL.desk.outside(), 0);
    }

    private static void ran(int point, int steps, int taken) {
        TRIAL.due("ran(0)", TRIAL.desk.ran(0), point);
        TRIAL.due("ran(1)", TRIAL.desk.ran(1), steps);
        TRIAL.due("ran(2)", TRIAL.desk.ran(2), taken);
        TRIAL.due("ran(-1)", TRIAL.desk.ran(-1), -1);
        TRIAL.due("ran(3)", TRIAL.desk.ran(3), -1);
    }

    private static void steps() {
        TRIAL.fresh();
        ran(0, 0, 0);
        TRIAL.due("run(0)", TRIAL.desk.run(0), 0);
        TRIAL.due("run(2000)", TRIAL.desk.run(2000), 0);
        ran(0, 0, 0);
        TRIAL.program("fun m(){var i;while(i<3){i=i+1;}i=9;}");
        TRIAL.due("value(0) before a run", TRIAL.desk.value(0), 0);
        ran(0, 0, 0);
        TRIAL.due("run(0)", TRIAL.desk.run(0), 16);
        ran(0, 0, 0);
        int[] points = {0, 1, 2, 1, 2, 1, 2, 1, 3, 4};
        int[] numbers = {0, 0, 0, 1, 1, 2, 2, 3, 3, 0};
        for (int k = 0; k < points.length; k++) {
            TRIAL.due("run(" + k + ")", TRIAL.desk.run(k), k == points.length - 1 ? 0 : 16);
            ran(points[k], k, 0);
            values(numbers[k]);
        }
        TRIAL.due("run(2000)", TRIAL.desk.run(2000), 0);
        ran(4, 9, 0);
        TRIAL.due("run(5)", TRIAL.desk.run(5), 16);
        TRIAL.due("run(-1)", TRIAL.desk.run(-1), -1);
        TRIAL.due("run(2001)", TRIAL.desk.run(2001), -1);
        TRIAL.due("run(2147483647)", TRIAL.desk.run(2147483647), -1);
        ran(1, 5, 0);
        values(2);
        TRIAL.program("fun m(){while(1<2){}}");
        TRIAL.due("run(2000)", TRIAL.desk.run(2000), 16);
        ran(0, 2000, 0);
        TRIAL.load("fun m(){var x;x=5;}");
        ran(0, 0, 0);
        TRIAL.due("run(1)", TRIAL.desk.run(1), 16);
        TRIAL.load("fun");
        ran(0, 0, 0);
        values();
    }

    private static void sum(String sum, int want) {
        TRIAL.program("fun m(){var x=any;var y=any;var t[3];t[1]=8;var z=" + sum + ";z=z;}");
        TRIAL.desk.input(-7);
        TRIAL.desk.input(2);
        TRIAL.desk.input(100);
        TRIAL.due("run of " + sum, TRIAL.desk.run(5), 16);
        values(-7, 2, want);
    }

    private static void sums() {
        sum("x+y*3", -1);
        sum("(x+y)*3", -15);
        sum("x-y-1", -10);
        sum("x-(y-1)", -8);
        sum("x/y", -3);
        sum("-x/y", 3);
        sum("x/-y", 3);
        sum("x%y", -1);
        sum("-x%y", 1);
        sum("x%-y", -1);
        sum("7/2*2", 6);
        sum("7*2/4%2", 1);
        sum("100%7%4", 2);
        sum("--x", -7);
        sum("- - -x", 7);
        sum("t[1]", 8);
        sum("t[y-1]+t[0]", 8);
        sum("any", 100);
        sum("any+any", 100);
        sum("any(-3,3)", -3);
        sum("any(5,300)", 100);
        sum("2147483647-y+2", 2147483647);
        sum("-2147483647-1", -2147483648);
        sum("(-2147483647-1)%-1", 0);
        sum("(-2147483647-1)%(x+7-1)", 0);
        sum("46341*46340", 2147441940);
    }

    /** The statement stands at point 4. */
    private static void trap(String statement, int trap, int taken) {
        TRIAL.program("fun m(){var x=any;var y=any;var t[3];x=x+1;" + statement + "x=5;}");
        TRIAL.desk.input(-8);
        TRIAL.desk.input(0);
        TRIAL.desk.input(4);
        TRIAL.due("run of " + statement, TRIAL.desk.run(2000), trap);
        ran(4, 5, taken);
        values(-7, 0);
        TRIAL.due("alarm of " + statement, TRIAL.desk.point(4, 2) & trap, trap);
        TRIAL.due("run(5) of " + statement, TRIAL.desk.run(5), trap);
        TRIAL.due("run(4) of " + statement, TRIAL.desk.run(4), 16);
        ran(4, 4, 2);
        TRIAL.due("outside()", TRIAL.desk.outside(), 0);
    }

    private static void traps() {
        trap("x=2147483647+1+any;", 1, 2);
        trap("x=any+2147483647;", 1, 3);
        trap("x=-2147483647-any;", 1, 3);
        trap("x=any*1000000000;", 1, 3);
        trap("x=-(-2147483647-1);", 1, 2);
        trap("x=(-2147483647-1)/-1;", 1, 2);
        trap("x=x/y;", 2, 2);
        trap("x=x%y;", 2, 2);
        trap("x=any/0;", 2, 3);
        trap("x=t[3];", 4, 2);
        trap("x=t[-1];", 4, 2);
        trap("x=t[any];", 4, 3);
        trap("t[3]=any;", 4, 2);
        trap("t[x]=1/0;", 4, 2);
        trap("t[0]=1/0;", 2, 2);
        trap("t[1/0]=any;", 2, 2);
        trap("assert(x==0);", 8, 2);
        trap("assert(x!=-7||any==5);", 8, 3);
        trap("if(1/y<1){}", 2, 2);
        trap("while(t[5]<1){}", 4, 2);
        trap("var q=1/y;", 2, 2);
        TRIAL.program("fun f(a,b){}fun m(){var x=3;f(any,1/any(0,1));x=5;}");
        TRIAL.desk.input(8);
        TRIAL.due("run", TRIAL.desk.run(2000), 2);
        ran(1, 2, 1);
        values(3);
        TRIAL.program("fun f(){return 1/any;}fun m(){var x=3;x=f();x=5;}");
        TRIAL.due("run", TRIAL.desk.run(2000), 2);
        ran(2, 3, 0);
        values(3);
    }

    private static void truth(String cond, int want, int taken) {
        TRIAL.program("fun m(){var x=any;var y=any;var r;if(" + cond + "){r=1;}else{r=2;}assert(1<2);}");
        TRIAL.desk.input(3);
        TRIAL.desk.input(5);
        TRIAL.desk.input(9);
        TRIAL.due("run of " + cond, TRIAL.desk.run(5), 16);
        values(3, 5, want);
        ran(6, 5, taken);
    }

    private static void conditions() {
        truth("x<y", 1, 2);
        truth("y<x", 2, 2);
        truth("x<3", 2, 2);
        truth("x<=3", 1, 2);
        truth("x<=2", 2, 2);
        truth("x>3", 2, 2);
        truth("x>2", 1, 2);
        truth("x>=3", 1, 2);
        truth("x>=4", 2, 2);
        truth("x==3", 1, 2);
        truth("x==y", 2, 2);
        truth("x!=y", 1, 2);
        truth("x!=3", 2, 2);
        truth("!x<y", 2, 2);
        truth("!!x<y", 1, 2);
        truth("x<y&&any==9", 1, 3);
        truth("x>y&&any==9", 2, 2);
        truth("x<y||any==9", 1, 2);
        truth("x>y||any==9", 1, 3);
        truth("x>y&&1/0<1||any==9", 1, 3);
        truth("x<y||1/0<1&&1/0<1", 1, 2);
        truth("[x<y||1/0<1]&&any<9", 2, 3);
        truth("![x>y&&1/0<1||any==9]", 2, 3);
        truth("x>y&&any==9&&1/0<1||any==9", 1, 3);
    }

    private static void arrays() {
        TRIAL.program("fun m(){var i;while(i<2){var t[3];t[i]=i+4;var u[2];u[1-i]=-1;i=i+1;}var s[64];s[63]=9;i=0;}");
        TRIAL.due("run(6)", TRIAL.desk.run(6), 16);
        places(0, 4, 0, 0);
        places(1, 0, -1);
        TRIAL.due("run(12)", TRIAL.desk.run(12), 16);
        ran(6, 12, 0);
        places(0, 0, 5, 0);
        places(1, -1, 0);
        TRIAL.due("run(14)", TRIAL.desk.run(14), 16);
        places(0);
        TRIAL.due("run(16)", TRIAL.desk.run(16), 16);
        TRIAL.due("place(0, 63)", TRIAL.desk.place(0, 63), 9);
        TRIAL.due("place(0, 64)", TRIAL.desk.place(0, 64), 0);
        TRIAL.due("place(0, 62)", TRIAL.desk.place(0, 62), 0);
        TRIAL.due("place(1, 0)", TRIAL.desk.place(1, 0), 0);
        TRIAL.due("run(2000)", TRIAL.desk.run(2000), 0);
        TRIAL.due("place(0, 63)", TRIAL.desk.place(0, 63), 0);
        TRIAL.load("fun m(){var s[64];}");
        TRIAL.due("place(0, 0)", TRIAL.desk.place(0, 0), 0);
    }

    private static void places(int a, int... want) {
        for (int i = 0; i < want.length; i++) {
            TRIAL.due("place(" + a + ", " + i + ")", TRIAL.desk.place(a, i), want[i]);
        }
        TRIAL.due("place(" + a + ", -1)", TRIAL.desk.place(a, -1), 0);
        TRIAL.due("place(" + a + ", " + want.length + ")", TRIAL.desk.place(a, want.length), 0);
        TRIAL.due("place(-1, 0)", TRIAL.desk.place(-1, 0), 0);
        TRIAL.due("place(6, 0)", TRIAL.desk.place(6, 0), 0);
        TRIAL.due("outside()", TRIAL.desk.outside(), 0);
    }

    private static void calls() {
        TRIAL.program("fun e(){}fun g(a){a=a*2;return a+1;}fun f(a,b){var c=a-b;e();c=g(c);return c;}"
            + "fun m(){var x=9;x=f(x,2);f(x,x);assert(x==15);}");
        int[][] values = {{}, {9}, {9, 9, 2}, {9, 9, 2, 7}, {9, 9, 2, 7}, {9, 9, 2, 7, 7}, {9, 9, 2, 7, 14}, {9, 9, 2, 15},
            {15}, {15, 15, 15}};
        int[] points = {0, 1, 2, 3, 4, 5, 6, 7, 8, 9};
        for (int k = 0; k < points.length; k++) {
            TRIAL.due("run(" + k + ")", TRIAL.desk.run(k), 16);
            ran(points[k], k, 0);
            values(values[k]);
        }
        TRIAL.due("run(2000)", TRIAL.desk.run(2000), 0);
        ran(16, 16, 0);
    }

    private static void callsWithArrays() {
        TRIAL.program("fun f(){var a[3];var b[2];a[2]=5;b[1]=a[2]+1;return b[1]+a[0];}fun m(){var t[2];var x;t[0]=-9;x=f();x=0;}");
        TRIAL.due("run(8)", TRIAL.desk.run(8), 16);
        ran(8, 8, 0);
        places(0, -9, 0);
        places(1, 0, 0, 5);
        places(2, 0, 6);
        TRIAL.due("run(9)", TRIAL.desk.run(9), 16);
        values(6);
        places(0, -9, 0);
        places(1);
        TRIAL.program("fun f(a){return a;}fun g(b){f(5);}fun m(){var x=1;g(2);assert(x==1);}");
        TRIAL.due("run(4)", TRIAL.desk.run(4), 16);
        values(1);
        TRIAL.due("run(5)", TRIAL.desk.run(5), 0);
    }

    private static void valuesBeforeAndBehind() {
        TRIAL.program("fun m(){if(1<2){var a=1;var b=2;}var c;var d=4;}");
        TRIAL.due("run(2)", TRIAL.desk.run(2), 16);
        values(1);
        TRIAL.due("run(3)", TRIAL.desk.run(3), 16);
        values();
        TRIAL.due("run(4)", TRIAL.desk.run(4), 16);
        values(0);
        TRIAL.due("run(5)", TRIAL.desk.run(5), 0);
        values();
    }

    private static void tooMuch() {
        TRIAL.fresh();
        String text = "fun m(){var a=1;" + "while(a<any){a=a+1;".repeat(12) + "}".repeat(12) + "a=1/0;}";
        TRIAL.due("end()", TRIAL.load(text), 3);
        TRIAL.due("run(2000)", TRIAL.desk.run(2000), 2);
        ran(25, 3, 0);
        TRIAL.desk.input(5);
        TRIAL.due("run(4)", TRIAL.desk.run(4), 16);
        ran(1, 4, 1);
        values(2);
    }
}
