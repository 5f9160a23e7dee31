/** Paragraphs of 'Terms' on VALUES, POINTS and A RUN, and promises 14 to 20, at their edges. */
public final class RunEdgeTest {
    private static final Edge EDGE = new Edge("RunEdgeTest");
    private static final String VALUES = "VALUES are ints";
    private static final String POINTS = "POINTS are numbered";
    private static final String RUN = "A RUN begins";
    private static final int MIN = Integer.MIN_VALUE;
    private static final int MAX = Integer.MAX_VALUE;

    public static void main(String[] args) {
        ints();
        slotsInOrder();
        slotsThatAreGone();
        beginnings();
        numbersOfPoints();
        turnsOfAWhile();
        stepsOfStatements();
        condsAndCallsByThemselves();
        endsOfBlocks();
        fromTheLeft();
        resultsThatAreNoInts();
        divisions();
        placesOfArrays();
        fullOfArrays();
        arraysOfFunctions();
        placesLookedAtBehindTheFirst();
        inputsOfAny();
        limitsOfAny();
        whatIsBehindOnlyWhenItMatters();
        asserts();
        whatReturns();
        mostInputs();
        noInputs();
        steps();
        stepsToTheEnd();
        refusedRuns();
        whatOfRuns();
        ranBeforeARun();
        valuesOfSlots();
        placesOfSlots();
        outsideOfNothing();
        outsideByClaims();
        outsideOfWhatIsTooMuch();
        EDGE.finish();
    }

    private static void ran(int answer, int point, int steps, int taken) {
        EDGE.due("ran(0) of a run that answered " + answer, EDGE.desk.ran(0), point);
        EDGE.due("ran(1) of a run that answered " + answer, EDGE.desk.ran(1), steps);
        EDGE.due("ran(2) of a run that answered " + answer, EDGE.desk.ran(2), taken);
        EDGE.due("outside()", EDGE.desk.outside(), 0);
    }

    private static void run(int steps, int answer, int point, int done, int taken) {
        EDGE.due("run(" + steps + ")", EDGE.desk.run(steps), answer);
        ran(answer, point, done, taken);
    }

    private static void values(int... values) {
        for (int x = 0; x < 13; x++) {
            EDGE.due("value(" + x + ")", EDGE.desk.value(x), x < values.length ? values[x] : 0);
        }
    }

    /** The SUM of the inputs x and y, by a run. */
    private static void sum(String sum, int x, int y, int want) {
        EDGE.program("fun m(){var x=any;var y=any;var z=" + sum + ";z=z;}");
        EDGE.desk.input(x);
        EDGE.desk.input(y);
        EDGE.due("run of " + sum + " by " + x + " and " + y, EDGE.desk.run(3), 16);
        EDGE.due(sum + " by " + x + " and " + y, EDGE.desk.value(2), want);
        EDGE.due("outside()", EDGE.desk.outside(), 0);
    }

    private static void trap(int trap, String sum, int x, int y) {
        EDGE.program("fun m(){var x=any;var y=any;var z=" + sum + ";z=z;}");
        EDGE.desk.input(x);
        EDGE.desk.input(y);
        EDGE.due("run of " + sum + " by " + x + " and " + y, EDGE.desk.run(2000), trap);
        ran(trap, 2, 3, 2);
        EDGE.due("value(2)", EDGE.desk.value(2), 0);
        EDGE.due("alarm " + trap, EDGE.desk.point(2, 2) & trap, trap);
    }

    private static void ints() {
        EDGE.terms(VALUES, "VALUES are ints, -2^31 .. 2^31 - 1.");
        for (int x : new int[] {MIN, MIN + 1, -1, 0, 1, MAX - 1, MAX}) {
            sum("x", x, 0, x);
            sum("x+y", x, 0, x);
            sum("y-(0-x)", x == MIN ? MIN + 1 : x, 0, x == MIN ? MIN + 1 : x);
        }
        sum("-2147483647-1", 0, 0, MIN);
        sum("2147483647", 0, 0, MAX);
    }

    private static void slotsInOrder() {
        EDGE.terms(VALUES, "numbers that are there at a point have slots 0, 1, .. in the order in which they came (parameters first); "
            + "arrays have slots of their own likewise.");
        EDGE.program("fun f(p,q){var b=7;var u[2];u[1]=8;b=b;}fun m(){var t[1];t[0]=1;var a=2;var c=3;f(4,5);}");
        EDGE.due("run(8)", EDGE.desk.run(8), 16);
        values(2, 3, 4, 5, 7);
        EDGE.due("place(0, 0)", EDGE.desk.place(0, 0), 1);
        EDGE.due("place(1, 1)", EDGE.desk.place(1, 1), 8);
        EDGE.program("fun m(){var a=1;var b=2;var c=3;var d=4;var e=5;var f=6;var g=7;var h=8;var i=9;var j=10;var k=11;var l=12;l=l;}");
        EDGE.due("run(12)", EDGE.desk.run(12), 16);
        values(1, 2, 3, 4, 5, 6, 7, 8, 9, 10, 11, 12);
        EDGE.program("fun m(){var a[1];var b[1];var c[1];var d[1];var e[1];var f[1];a[0]=1;f[0]=6;}");
        EDGE.due("run(7)", EDGE.desk.run(7), 16);
        EDGE.due("place(0, 0)", EDGE.desk.place(0, 0), 1);
        EDGE.due("place(5, 0)", EDGE.desk.place(5, 0), 0);
    }

    private static void slotsThatAreGone() {
        EDGE.terms(VALUES, "Those of a BLOCK that ends are gone.");
        EDGE.program("fun m(){var a=1;if(1<2){var b=2;var t[2];t[1]=5;}var c=3;var u[2];c=c;}");
        EDGE.due("run(4)", EDGE.desk.run(4), 16);
        values(1, 2);
        EDGE.due("run(5)", EDGE.desk.run(5), 16);
        EDGE.due("place(0, 1)", EDGE.desk.place(0, 1), 0);
        values(1);
        EDGE.due("point(5, 3)", EDGE.desk.point(5, 3), 1);
        EDGE.due("point(5, 4)", EDGE.desk.point(5, 4), 0);
        EDGE.due("run(7)", EDGE.desk.run(7), 16);
        values(1, 3);
        EDGE.due("place(0, 1)", EDGE.desk.place(0, 1), 0);
        EDGE.due("run(8)", EDGE.desk.run(8), 0);
        values();
    }

    private static void beginnings() {
        EDGE.terms(VALUES, "A var begins with 0, or its SUM; all places of an array with 0, each time.");
        EDGE.program("fun m(){var i;while(i<2){var a;var t[64];a=a+5;t[0]=t[0]+6;t[63]=t[63]+7;i=i+1;}}");
        EDGE.due("run(7)", EDGE.desk.run(7), 16);
        values(0, 5);
        EDGE.due("place(0, 0)", EDGE.desk.place(0, 0), 6);
        EDGE.due("place(0, 63)", EDGE.desk.place(0, 63), 7);
        EDGE.due("run(11), in the second turn", EDGE.desk.run(11), 16);
        values(1, 0);
        EDGE.due("place(0, 0)", EDGE.desk.place(0, 0), 0);
        EDGE.due("place(0, 63)", EDGE.desk.place(0, 63), 0);
        EDGE.due("run(14)", EDGE.desk.run(14), 16);
        values(1, 5);
        EDGE.due("place(0, 0)", EDGE.desk.place(0, 0), 6);
        EDGE.due("place(0, 63)", EDGE.desk.place(0, 63), 7);
    }

    private static void numbersOfPoints() {
        EDGE.terms(POINTS, "POINTS are numbered from 0: each statement has one, before it; behind that of an if come those of its first "
            + "BLOCK and then of the other one; behind that of a while those of its BLOCK; behind that of a call those of the function's "
            + "BLOCK; the last point of all is THE END.");
        String text = "fun e(){}fun f(){assert(3<4);return 1;}fun m(){var x;if(x<1){x=10;}else{x=20;x=21;}if(x<1){}else{}"
            + "while(x<12){x=30;e();}x=f();f();}";
        EDGE.program(text);
        String[] order = {"var x", "if(x<1){x", "x=10", "x=20", "x=21", "if(x<1){}", "while", "x=30", "e();}", "x=f", "assert",
            "return", "f();}", "assert", "return"};
        EDGE.due("points()", EDGE.desk.points(), order.length + 1);
        for (int p = 0; p < order.length; p++) {
            EDGE.due("point(" + p + ", 1)", EDGE.desk.point(p, 1), p == 12 ? text.lastIndexOf("f();}") : text.indexOf(order[p]));
        }
        EDGE.due("point(" + order.length + ", 0)", EDGE.desk.point(order.length, 0), 0);
    }

    private static void turnsOfAWhile() {
        EDGE.terms(POINTS, "(The point of a while is come to before each turn.)");
        EDGE.program("fun m(){while(any==1){}}");
        EDGE.desk.input(1);
        EDGE.desk.input(1);
        run(0, 16, 0, 0, 0);
        run(1, 16, 0, 1, 1);
        run(2, 16, 0, 2, 2);
        run(3, 0, 1, 3, 2);
        EDGE.program("fun m(){var i;while(i<2){i=i+1;}}");
        int[] points = {0, 1, 2, 1, 2, 1, 3};
        for (int k = 0; k < points.length; k++) {
            run(k, k == 6 ? 0 : 16, points[k], k, 0);
        }
    }

    private static void stepsOfStatements() {
        EDGE.terms(RUN, "A RUN begins at point 0 and goes by steps: a statement is carried out (of if and while, each time, the COND; of "
            + "a call what it puts to parameters; the end of a BLOCK is no step).");
        EDGE.program("fun e(){}fun f(a){return a;}fun m(){var x;var t[1];t[0]=1;if(x<1){if(x<1){}}e();x=f(3);while(x<1){}assert(x==3);}");
        int[] points = {0, 1, 2, 3, 4, 5, 6, 7, 8, 9, 10};
        for (int k = 0; k < points.length; k++) {
            run(k, k == 10 ? 0 : 16, points[k], k, 0);
        }
        run(7, 16, 7, 7, 0);
        values(0, 3);
        run(8, 16, 8, 8, 0);
        values(3);
    }

    private static void condsAndCallsByThemselves() {
        EDGE.terms(RUN, "a statement is carried out (of if and while, each time, the COND; of a call what it puts to parameters");
        EDGE.program("fun f(a){return any;}fun m(){var x;if(any==1){x=any;}while(any==3){x=any;}f(any);x=f(any);assert(any==9);x=any;}");
        for (int k = 1; k <= 10; k++) {
            EDGE.desk.input(k);
        }
        int[] points = {0, 1, 2, 3, 4, 3, 5, 6, 7, 8, 9};
        int[] taken = {0, 0, 1, 2, 3, 4, 5, 6, 7, 8, 9};
        for (int k = 0; k < points.length; k++) {
            run(k, 16, points[k], k, taken[k]);
        }
        EDGE.due("run(2000), any being 10 in the assert", EDGE.desk.run(2000), 8);
        ran(8, 9, 11, 10);
    }

    /** The ways of a run from the ends of BLOCKs, each statement being come to by itself. */
    private static void way(String text, int... points) {
        EDGE.program(text);
        for (int k = 0; k < points.length; k++) {
            run(k, k == points.length - 1 ? 0 : 16, points[k], k, 0);
        }
        EDGE.due("inductive() of " + text, EDGE.desk.inductive(), -1);
    }

    private static void endsOfBlocks() {
        EDGE.terms(RUN, "the end of a BLOCK is no step");
        way("fun m(){if(1<2){if(2<1){}}else{if(1<2){}}}", 0, 1, 3);
        way("fun m(){if(2<1){if(2<1){}}else{if(1<2){}if(1<2){}}}", 0, 2, 3, 4);
        way("fun m(){if(1<2){if(1<2){}if(2<1){if(1<2){}}}else{if(1<2){}}if(1<2){}}", 0, 1, 2, 5, 6);
        way("fun m(){var i;while(i<1){i=1;if(2<1){}}}", 0, 1, 2, 3, 1, 4);
        way("fun m(){var i;while(i<1){if(1<2){i=1;if(i<1){i=2;}}}}", 0, 1, 2, 3, 4, 1, 6);
        way("fun m(){var i;while(i<1){i=1;if(2<1){i=2;}else{i=1;i=1;}}i=3;}", 0, 1, 2, 3, 5, 6, 1, 7, 8);
        way("fun m(){var i;while(i<1){i=1;while(2<1){}}i=3;}", 0, 1, 2, 3, 1, 4, 5);
        way("fun f(){if(2<1){}}fun m(){var i;while(i<1){i=1;f();}f();}", 0, 1, 2, 3, 4, 1, 5, 6, 7);
        way("fun e(){}fun f(){if(1<2){e();}}fun m(){f();if(2<1){}else{f();}}", 0, 1, 2, 3, 4, 5, 6, 7);
        way("fun m(){while(2<1){}while(2<1){if(1<2){}}if(2<1){if(1<2){}}}", 0, 1, 3, 5);
    }

    private static void order(String statement, int trap, int taken) {
        EDGE.program("fun m(){var x=2147483647;var t[2];" + statement + "}");
        EDGE.desk.input(1);
        EDGE.desk.input(0);
        EDGE.due("run of " + statement, EDGE.desk.run(2000), trap);
        ran(trap, 2, 3, taken);
    }

    private static void fromTheLeft() {
        EDGE.terms(RUN, "What stands in it is reckoned from the left to the right, a + - * / % when its parts were.");
        order("x=1/0+t[2];", 2, 0);
        order("x=t[2]+1/0;", 4, 0);
        order("x=x+1+1/0;", 1, 0);
        order("x=x+(1+1/0);", 2, 0);
        order("x=x*2+t[2];", 1, 0);
        order("x=1+x*(2+t[2]);", 4, 0);
        order("x=1-x%0*t[2];", 2, 0);
        order("x=any/any;", 2, 2);
        order("x=t[any+any]+x+any+1/0;", 2, 2);
        order("x=-x-1-any;", 1, 1);
        order("t[any]=1/any;", 2, 2);
        order("if(any<1/0&&any<1){}", 2, 1);
        order("assert(t[2]<1/0);", 4, 0);
        EDGE.terms("SUMS are none", "A SUM is TERMs with + or - between, from the left on; a TERM is FACTORs with *, / or % between, from "
            + "the left on");
        sum("x-y-1", 7, 2, 4);
        sum("x-(y-1)", 7, 2, 6);
        sum("x/y/2", 12, 3, 2);
        sum("x*y/4%5", 7, 4, 2);
        sum("x%y*2", 7, 4, 6);
        sum("x+y*2", 1, 2, 5);
        sum("-x*y", 3, 4, -12);
        sum("x-y+x*10", 3, 4, 29);
        EDGE.terms(RUN, "What stands in it is reckoned from the left to the right");
        EDGE.program("fun m(){var x=any*100+any*10+any;x=x;}");
        EDGE.desk.input(1);
        EDGE.desk.input(2);
        EDGE.desk.input(3);
        run(1, 16, 1, 1, 3);
        values(123);
        EDGE.program("fun f(a,b){a=b;}fun m(){f(any,any);}");
        EDGE.desk.input(1);
        EDGE.desk.input(2);
        run(1, 16, 1, 1, 2);
        values(1, 2);
    }

    private static void resultsThatAreNoInts() {
        EDGE.terms(RUN, "A result that is no int is TRAP 1 (so -2^31 / -1 and - -2^31, too)");
        sum("x+y", MAX - 1, 1, MAX);
        trap(1, "x+y", MAX, 1);
        sum("x+y", MIN + 1, -1, MIN);
        trap(1, "x+y", MIN, -1);
        trap(1, "x+y", MIN, MIN);
        trap(1, "x+y", MAX, MAX);
        sum("x-y", MAX - 1, -1, MAX);
        trap(1, "x-y", MAX, -1);
        sum("x-y", MIN + 1, 1, MIN);
        trap(1, "x-y", MIN, 1);
        sum("x-y", -1, MIN, MAX);
        trap(1, "x-y", 0, MIN);
        sum("x*y", 46340, 46341, 2147441940);
        trap(1, "x*y", 46341, 46341);
        sum("x*y", 65536, -32768, MIN);
        trap(1, "x*y", 65536, 32768);
        sum("x*y", MIN, 1, MIN);
        trap(1, "x*y", MIN, -1);
        trap(1, "x*y", MIN, MIN);
        trap(1, "x*y", MAX, MAX);
        sum("x*y", MAX, -1, MIN + 1);
        sum("x*y", MIN, 0, 0);
        sum("-x", MIN + 1, 0, MAX);
        sum("-x", MAX, 0, MIN + 1);
        trap(1, "-x", MIN, 0);
        sum("x/y", MIN + 1, -1, MAX);
        sum("x/y", MIN, 1, MIN);
        sum("x/y", MIN, -2, 1073741824);
        trap(1, "x/y", MIN, -1);
        // what comes between must be an int, too
        trap(1, "x+1-1", MAX, 0);
        trap(1, "x*2/2", MAX, 0);
        trap(1, "--x", MIN, 0);
        sum("x-1+1", MAX, 0, MAX);
    }

    private static void divisions() {
        EDGE.terms(RUN, "/ and % by 0 are trap 2 (/ is rounded to 0, a % b is a - a / b * b, for -2^31 % -1 it is 0)");
        for (int x : new int[] {MIN, -1, 0, 1, MAX}) {
            trap(2, "x/y", x, 0);
            trap(2, "x%y", x, 0);
        }
        sum("x/y", 0, -1, 0);
        sum("x%y", 0, 1, 0);
        sum("x/y", 7, 2, 3);
        sum("x/y", -7, 2, -3);
        sum("x/y", 7, -2, -3);
        sum("x/y", -7, -2, 3);
        sum("x%y", 7, 2, 1);
        sum("x%y", -7, 2, -1);
        sum("x%y", 7, -2, 1);
        sum("x%y", -7, -2, -1);
        sum("x/y", 1, 2, 0);
        sum("x/y", -1, 2, 0);
        sum("x%y", -1, 2, -1);
        sum("x%y", MIN, -1, 0);
        sum("x%y", MIN, 1, 0);
        sum("x%y", MIN, MAX, -1);
        sum("x%y", MAX, MIN, MAX);
        sum("x%y", MIN, MIN, 0);
        sum("x/y", MIN, MIN, 1);
        sum("x/y", MAX, MIN, 0);
    }

    private static void place(int size, int i, boolean right) {
        EDGE.program("fun m(){var t[" + size + "];var i=any;t[i]=5;i=t[i];i=i;}");
        EDGE.desk.input(i);
        run(2000, right ? 0 : 4, right ? 5 : 2, right ? 5 : 3, 1);
        EDGE.program("fun m(){var t[" + size + "];var i=any;i=t[i];i=i;}");
        EDGE.desk.input(i);
        run(2000, right ? 0 : 4, right ? 4 : 2, right ? 4 : 3, 1);
        if (!right) {
            values(i);
        }
    }

    private static void placesOfArrays() {
        EDGE.terms(RUN, "a place that an array has not is trap 4");
        for (int size : new int[] {1, 2, 63, 64}) {
            place(size, 0, true);
            place(size, size - 1, true);
            place(size, -1, false);
            place(size, size, false);
            place(size, size + 1, false);
            place(size, MIN, false);
            place(size, MAX, false);
            place(size, 256, false);
            place(size, -64, false);
        }
        // another array with that place does not help
        EDGE.program("fun m(){var t[2];var u[9];var x=t[any];}");
        EDGE.desk.input(2);
        run(2000, 4, 2, 3, 1);
    }

    private static void fullOfArrays() {
        EDGE.terms(RUN, "a place that an array has not is trap 4");
        String[] names = {"a", "b", "c", "d", "e", "f"};
        StringBuilder text = new StringBuilder("fun m(){");
        for (String name : names) {
            text.append("var ").append(name).append("[64];");
        }
        for (int a = 0; a < 6; a++) {
            text.append(names[a]).append("[0]=").append(10 + a).append(";").append(names[a]).append("[63]=").append(20 + a).append(";");
        }
        text.append("var s=((((a[0]*2+b[0])*2+c[0])*2+d[0])*2+e[0])*2+f[0];s=(((a[63]+b[63])*9+c[63])*9+d[63])*9+e[63]*9+f[63];s=s;}");
        EDGE.program(text.toString());
        EDGE.due("run(19)", EDGE.desk.run(19), 16);
        EDGE.due("value(0)", EDGE.desk.value(0), 10 * 32 + 11 * 16 + 12 * 8 + 13 * 4 + 14 * 2 + 15);
        EDGE.due("run(20)", EDGE.desk.run(20), 16);
        EDGE.due("value(0)", EDGE.desk.value(0), (41 * 81 + 22 * 9 + 23) * 9 + 24 * 9 + 25);
        for (int a = 0; a < 6; a++) {
            EDGE.due("place(" + a + ", 0)", EDGE.desk.place(a, 0), 10 + a);
            EDGE.due("place(" + a + ", 1)", EDGE.desk.place(a, 1), 0);
            EDGE.due("place(" + a + ", 62)", EDGE.desk.place(a, 62), 0);
            EDGE.due("place(" + a + ", 63)", EDGE.desk.place(a, 63), 20 + a);
            EDGE.due("place(" + a + ", 64)", EDGE.desk.place(a, 64), 0);
        }
        EDGE.due("outside()", EDGE.desk.outside(), 0);
    }

    private static void arraysOfFunctions() {
        EDGE.terms(VALUES, "arrays have slots of their own likewise");
        EDGE.program("fun f(p){var u[2];var v[2];u[0]=p+1;v[1]=u[0]*10;p=v[1]+u[0];return p;}"
            + "fun m(){var t[2];var s[3];t[1]=5;s[2]=6;var x;x=f(s[2]+t[1]);x=x;}");
        EDGE.due("run(11)", EDGE.desk.run(11), 16);
        values(0, 132);
        EDGE.due("place(0, 1)", EDGE.desk.place(0, 1), 5);
        EDGE.due("place(1, 2)", EDGE.desk.place(1, 2), 6);
        EDGE.due("place(2, 0)", EDGE.desk.place(2, 0), 12);
        EDGE.due("place(3, 1)", EDGE.desk.place(3, 1), 120);
        EDGE.known(11, "x in 0..0, p in 0..132, t[] in 0..5, s[] in 0..6, u[] in 0..12, v[] in 0..120");
        EDGE.due("run(12)", EDGE.desk.run(12), 16);
        values(132);
        EDGE.due("outside()", EDGE.desk.outside(), 0);
    }

    private static void placesLookedAtBehindTheFirst() {
        EDGE.terms(RUN, "(for NAME [ SUM ] = SUM it is looked at behind the first SUM)");
        order("t[2]=any;", 4, 0);
        order("t[2]=1/0;", 4, 0);
        order("t[-1]=x+1;", 4, 0);
        order("t[any+1]=any;", 4, 1);
        order("t[1/0]=t[2];", 2, 0);
        order("t[1]=1/0;", 2, 0);
        order("t[0]=x+1;", 1, 0);
    }

    private static void inputsOfAny() {
        EDGE.terms(RUN, "any is the next of the INPUTS, 0 when there are no more");
        EDGE.program("fun m(){var x=any;var y=any;var z=any;z=z;}");
        run(3, 16, 3, 3, 0);
        values(0, 0, 0);
        EDGE.desk.input(MIN);
        run(3, 16, 3, 3, 1);
        values(MIN, 0, 0);
        EDGE.desk.input(MAX);
        run(3, 16, 3, 3, 2);
        values(MIN, MAX, 0);
        EDGE.desk.input(5);
        run(3, 16, 3, 3, 3);
        values(MIN, MAX, 5);
        EDGE.desk.input(6);
        run(3, 16, 3, 3, 3);
        values(MIN, MAX, 5);
    }

    private static void any(String limits, int input, int want) {
        EDGE.program("fun m(){var x=any(" + limits + ");x=x;}");
        EDGE.desk.input(input);
        run(1, 16, 1, 1, 1);
        values(want);
    }

    private static void limitsOfAny() {
        EDGE.terms(RUN, "any ( a , b ) is that, or a when it is not a .. b.");
        any("3,5", 2, 3);
        any("3,5", 3, 3);
        any("3,5", 4, 4);
        any("3,5", 5, 5);
        any("3,5", 6, 3);
        any("-5,-3", -6, -5);
        any("-5,-3", -5, -5);
        any("-5,-3", -3, -3);
        any("-5,-3", -2, -5);
        any("4,4", 4, 4);
        any("4,4", 5, 4);
        any("-2147483647,2147483647", MIN, MIN + 1);
        any("-2147483647,2147483647", MIN + 1, MIN + 1);
        any("-2147483647,2147483647", MAX, MAX);
        any("-2147483647,2147483646", MAX, MIN + 1);
        EDGE.program("fun m(){var x=any(3,5);var y=any(-1,1);var z=any(-5,-3);z=z;}");
        run(3, 16, 3, 3, 0);
        values(3, 0, -5);
    }

    private static void cond(String cond, int answer, int taken) {
        EDGE.program("fun m(){assert(" + cond + ");}");
        EDGE.desk.input(1);
        EDGE.desk.input(2);
        run(2000, answer, answer == 0 ? 1 : 0, 1, taken);
    }

    private static void whatIsBehindOnlyWhenItMatters() {
        EDGE.terms(RUN, "&& and || look at what is behind only when that matters.");
        cond("1<2||1/0<1", 0, 0);
        cond("2<1||1/0<1", 2, 0);
        cond("2<1&&1/0<1", 8, 0);
        cond("1<2&&1/0<1", 2, 0);
        cond("any<2||any<0", 0, 1);
        cond("any>2||any==2", 0, 2);
        cond("any>2&&any==2", 8, 1);
        cond("any<2&&any==2", 0, 2);
        cond("2<1&&1/0<1||any==1", 0, 1);
        cond("1<2||1/0<1&&1/0<1||1/0<1", 0, 0);
        cond("2<1&&1/0<1&&1/0<1||any==1&&any==2", 0, 2);
        cond("![1<2||1/0<1]||any==1", 0, 1);
        cond("![2<1&&1/0<1]&&any==1", 0, 1);
        cond("[1<2||1/0<1]&&any==1", 0, 1);
        cond("[2<1&&1/0<1]||any==2||any==2", 0, 2);
        cond("1/0<any", 2, 0);
        cond("any<1/0", 2, 1);
    }

    private static void asserts() {
        EDGE.terms(RUN, "An assert that does not hold is trap 8.");
        String[] relations = {"<", "<=", ">", ">=", "==", "!="};
        boolean[][] holds = {{true, false, false}, {true, true, false}, {false, false, true}, {false, true, true},
            {false, true, false}, {true, false, true}};
        int[] ends = {MIN, -1, 0, MAX};
        for (int r = 0; r < relations.length; r++) {
            for (int x : ends) {
                for (int y : ends) {
                    EDGE.program("fun m(){assert(any" + relations[r] + "any);}");
                    EDGE.desk.input(x);
                    EDGE.desk.input(y);
                    boolean right = holds[r][x < y ? 0 : x == y ? 1 : 2];
                    run(2000, right ? 0 : 8, right ? 1 : 0, 1, 2);
                }
            }
        }
    }

    private static void whatReturns() {
        EDGE.terms(RUN, "A call puts values to the parameters; what returns goes to the NAME in front, if there is one (its SUM is "
            + "reckoned in any case).");
        EDGE.program("fun f(a,b){return a-b+any;}fun m(){var x=9;f(x,1);x=f(x,2);x=x;}");
        EDGE.desk.input(100);
        EDGE.desk.input(200);
        run(2, 16, 2, 2, 0);
        values(9, 9, 1);
        run(3, 16, 3, 3, 1);
        values(9);
        run(5, 16, 5, 5, 2);
        values(207);
        EDGE.program("fun f(){return 1/any;}fun m(){var x=9;f();x=x;}");
        run(2000, 2, 2, 3, 0);
        values(9);
        EDGE.program("fun f(){return 2147483647+any;}fun m(){var x=9;x=f();}");
        EDGE.desk.input(1);
        run(2000, 1, 2, 3, 1);
        values(9);
        // calls within functions: with a NAME in front what returns goes to that one, without one it goes nowhere
        EDGE.program("fun f(a){return a;}fun g(p,q){f(5);q=f(6);p=p;}fun m(){var x=1;var y=2;g(3,4);}");
        run(5, 16, 5, 5, 0);
        values(1, 2, 3, 4);
        run(7, 16, 7, 7, 0);
        values(1, 2, 3, 6);
        EDGE.program("fun f(a){a=5;}fun m(){var x=9;f(x);x=x;}");
        run(3, 16, 3, 3, 0);
        values(9);
    }

    private static void mostInputs() {
        EDGE.promise(14, "NONE when there are 1000.");
        EDGE.freshForManyCalls();
        for (int k = 1; k <= 1000; k++) {
            EDGE.due("input() " + k, EDGE.desk.input(k), k);
        }
        EDGE.due("input() 1001", EDGE.desk.input(-7), -1);
        EDGE.due("input() 1002", EDGE.desk.input(1000), -1);
        EDGE.desk.load("fun m(){var i;while(any!=1000){i=i+1;}i=any;}");
        run(2000, 16, 3, 2000, 1000);
        values(999);
        EDGE.due("drop()", EDGE.desk.drop(), 1000);
        EDGE.due("input() again", EDGE.desk.input(4), 1);
        EDGE.refusedWhenFull("input() of a full desk", desk -> desk.input(5), desk -> {
            for (int k = 3; k <= 1000; k++) {
                EDGE.due("input() " + k, desk.input(-k), k);
            }
        });
        EDGE.promise(14, "One more input: how many there are.");
        EDGE.fresh();
        EDGE.due("input(" + MIN + ")", EDGE.desk.input(MIN), 1);
        EDGE.due("input(" + MAX + ")", EDGE.desk.input(MAX), 2);
        EDGE.due("input(-1)", EDGE.desk.input(-1), 3);
    }

    private static void noInputs() {
        EDGE.promise(15, "There are no inputs: how many there were.");
        EDGE.fresh();
        EDGE.due("drop() of none", EDGE.desk.drop(), 0);
        EDGE.desk.input(5);
        EDGE.due("drop() of one", EDGE.desk.drop(), 1);
        EDGE.due("drop() again", EDGE.desk.drop(), 0);
        EDGE.desk.input(6);
        EDGE.desk.load("fun m(){var x=any;x=x;}");
        run(1, 16, 1, 1, 1);
        values(6);
        EDGE.due("drop()", EDGE.desk.drop(), 1);
        ran(16, 1, 1, 1);
        values(6);
        run(1, 16, 1, 1, 0);
        values(0);
    }

    private static void steps() {
        EDGE.promise(16, "The program is run, from its beginning and the first input on, by that many steps at most");
        EDGE.program("fun m(){var x=any;x=x+any;x=x+any;}");
        EDGE.desk.input(1);
        EDGE.desk.input(10);
        for (int again = 0; again < 2; again++) {
            run(1, 16, 1, 1, 1);
            values(1);
            run(2, 16, 2, 2, 2);
            values(11);
            run(3, 0, 3, 3, 2);
            run(2000, 0, 3, 3, 2);
        }
        EDGE.promise(16, "(by 0 steps 16, but 0 for a program that has only the end)");
        run(0, 16, 0, 0, 0);
        EDGE.desk.load("fun m(){}");
        run(0, 0, 0, 0, 0);
        run(2000, 0, 0, 0, 0);
        EDGE.desk.load("fun m(){while(1<2){}}");
        run(0, 16, 0, 0, 0);
        EDGE.desk.load("fun m(){var x=1/0;}");
        run(0, 16, 0, 0, 0);
        run(1, 2, 0, 1, 0);
    }

    private static void stepsToTheEnd() {
        EDGE.promise(16, "0 it came to the end (also with the last one of them); 1, 2, 4 or 8 a trap; 16 neither");
        // one step for the var, two for each turn, and one for the COND that fails
        EDGE.program("fun m(){var i;while(i<999){i=i+1;}}");
        run(2000, 0, 3, 2000, 0);
        run(1999, 16, 1, 1999, 0);
        values(999);
        EDGE.program("fun m(){var i;while(i<999){i=i+1;}i=0;}");
        run(2000, 16, 3, 2000, 0);
        values(999);
        EDGE.program("fun m(){var i;while(i<999){i=i+1;}assert(i<0);}");
        run(2000, 16, 3, 2000, 0);
        EDGE.program("fun m(){while(1<2){}}");
        run(2000, 16, 0, 2000, 0);
        EDGE.program("fun m(){var i=998;while(i<999){i=i+1;}assert(i<0);}");
        run(5, 8, 3, 5, 0);
        run(4, 16, 3, 4, 0);
    }

    private static void refusedRuns() {
        EDGE.promise(16, "NONE, refused, when steps are not 0 .. 2000.");
        for (int steps : new int[] {-1, 2001, MIN, MAX, -2000, 4000}) {
            EDGE.refused("run(" + steps + ")", desk -> desk.run(steps), -1);
            EDGE.refused("run(" + steps + ") without a run", desk -> desk.run(steps), -1, desk -> desk.load("fun m(){var x=5;x=6;}"));
            EDGE.refused("run(" + steps + ") of a new desk", desk -> desk.run(steps), -1, desk -> { });
        }
    }

    private static void whatOfRuns() {
        EDGE.promise(17, "NONE when what is none of these.");
        EDGE.program("fun m(){var x=any;x=1/x;}");
        EDGE.desk.input(0);
        run(2000, 2, 1, 2, 1);
        for (int what : new int[] {-1, 3, 4, MIN, MAX}) {
            EDGE.due("ran(" + what + ")", EDGE.desk.ran(what), -1);
        }
        EDGE.refused("ran(3)", desk -> desk.ran(3), -1);
        EDGE.refused("ran(-1)", desk -> desk.ran(-1), -1);
        EDGE.promise(17, "what = 0 the point that it came to last (of the statement with the trap), 1 how many steps were done (that with "
            + "the trap, too), 2 how many inputs were taken (those that there were)");
        EDGE.program("fun m(){var x=any+any+any+1/any;}");
        EDGE.desk.input(1);
        EDGE.desk.input(2);
        run(2000, 2, 0, 1, 2);
        EDGE.desk.input(3);
        EDGE.desk.input(4);
        EDGE.desk.input(5);
        run(2000, 0, 1, 1, 4);
    }

    private static void ranBeforeARun() {
        EDGE.promise(17, "0 when there was none since the latest end()");
        EDGE.fresh();
        ran(0, 0, 0, 0);
        for (String text : new String[] {"fun m(){var x=5;x=6;}", "fun m(){", "fun m(){y=1;}", "fun m(){}", Edge.tooMuch()}) {
            EDGE.program("fun m(){var x=any;var t[1];t[0]=3;x=x;}");
            EDGE.desk.input(8);
            run(3, 16, 3, 3, 1);
            EDGE.due("end(21), refused", EDGE.desk.end(21), -1);
            ran(16, 3, 3, 1);
            EDGE.desk.load(text);
            ran(0, 0, 0, 0);
            values();
            EDGE.due("place(0, 0)", EDGE.desk.place(0, 0), 0);
        }
    }

    private static void valuesOfSlots() {
        EDGE.promise(18, "The value of a slot where the latest run stands (for a trap: before its statement); 0 when there is none such, "
            + "or no run since the latest end().");
        EDGE.program("fun m(){var x=7;var y=8;x=x+2147483640;x=1;}");
        EDGE.due("value(0) before a run", EDGE.desk.value(0), 0);
        run(2000, 0, 4, 4, 0);
        values();
        run(2, 16, 2, 2, 0);
        values(7, 8);
        run(0, 16, 0, 0, 0);
        values();
        EDGE.program("fun m(){var x=7;x=x+any;x=x+2147483640;x=1;}");
        run(2000, 0, 4, 4, 0);
        EDGE.desk.input(1);
        run(2000, 1, 2, 3, 1);
        values(8);
        for (int x : new int[] {-1, 1, 2, 11, 12, 13, MIN, MAX}) {
            EDGE.due("value(" + x + ")", EDGE.desk.value(x), 0);
        }
        EDGE.program("fun f(a,b){return a;}fun m(){var x=7;f(1,2);f(3,1/any);}");
        run(2000, 2, 3, 4, 0);
        values(7);
        EDGE.refused("value(1)", desk -> desk.value(1), 0);
        EDGE.refused("value(-1)", desk -> desk.value(-1), 0);
    }

    private static void placesOfSlots() {
        EDGE.promise(19, "Likewise of place i, from 0, of an array (0, too, for a place that it has not).");
        EDGE.program("fun m(){var u[64];u[63]=9;u[0]=8;var t[2];t[0]=5;t[1]=6;t[any]=7;}");
        EDGE.due("place(0, 0) before a run", EDGE.desk.place(0, 0), 0);
        EDGE.desk.input(2);
        run(2000, 4, 6, 7, 1);
        EDGE.due("place(0, 0)", EDGE.desk.place(0, 0), 8);
        EDGE.due("place(0, 63)", EDGE.desk.place(0, 63), 9);
        EDGE.due("place(1, 0)", EDGE.desk.place(1, 0), 5);
        EDGE.due("place(1, 1)", EDGE.desk.place(1, 1), 6);
        for (int i : new int[] {-1, 64, 65, MIN, MAX}) {
            EDGE.due("place(0, " + i + ")", EDGE.desk.place(0, i), 0);
        }
        // place -1 of the second array is none, though the first one ends there
        for (int i : new int[] {-1, -64, 2, 63, 64, MIN, MAX}) {
            EDGE.due("place(1, " + i + ")", EDGE.desk.place(1, i), 0);
        }
        for (int a : new int[] {-1, 2, 5, 6, MIN, MAX}) {
            EDGE.due("place(" + a + ", 0)", EDGE.desk.place(a, 0), 0);
        }
        EDGE.refused("place(1, 0)", desk -> desk.place(1, 0), 0);
        EDGE.refused("place(0, 2)", desk -> desk.place(0, 2), 0);
        // an array that took the slot of a longer one has only its own places
        EDGE.program("fun m(){if(1<2){var t[9];t[8]=1;}var u[2];u[0]=0;}");
        run(4, 16, 4, 4, 0);
        EDGE.due("place(0, 8)", EDGE.desk.place(0, 8), 0);
    }

    private static void outsideOfNothing() {
        EDGE.promise(20, "How often, in all runs (of all programs that there were), a run came to a point where its values are not within "
            + "what is known by the analysis");
        EDGE.promise(20, "or to a trap for which its point has no such alarm");
        EDGE.promise(20, "It is 0, ever.");
        EDGE.fresh();
        EDGE.due("outside() without a run", EDGE.desk.outside(), 0);
        String[] texts = {"fun m(){var x=any;x=x+1;}", "fun m(){var x=any;x=1/x;}", "fun m(){var x=any;var t[2];x=t[x];}",
            "fun m(){var x=any;assert(x<0);}", "fun m(){var x=any;while(x>0){x=x-1;}}", "fun m(){var x=1/0;x=x;}"};
        for (String text : texts) {
            EDGE.desk.load(text);
            for (int input : new int[] {MIN, -1, 0, 1, 2, MAX}) {
                EDGE.desk.drop();
                EDGE.desk.input(input);
                EDGE.desk.run(100);
                EDGE.due("outside() of " + text + " by " + input, EDGE.desk.outside(), 0);
            }
        }
    }

    private static void outsideByClaims() {
        EDGE.promise(20, "or not within claims that were inductive when it began");
        EDGE.program("fun m(){var x=any(0,9);x=x;x=x;}");
        EDGE.desk.input(5);
        EDGE.due("claim() that is not inductive", EDGE.desk.claim(1, 0, 1, 0, 1, 4), 1);
        EDGE.due("inductive()", EDGE.desk.inductive(), 0);
        run(2000, 0, 3, 3, 1);
        EDGE.due("claimNothing(0)", EDGE.desk.claimNothing(0), 1);
        run(2000, 0, 3, 3, 1);
        EDGE.desk.unclaim();
        EDGE.due("claimNothing(2)", EDGE.desk.claimNothing(2), 1);
        run(2000, 0, 3, 3, 1);
        EDGE.program("fun m(){var i=9;while(i!=0){i=i-1;}i=5;}");
        EDGE.due("claim()", EDGE.desk.claim(1, 0, -1, 0, -1, 0), 1);
        EDGE.due("claim()", EDGE.desk.claim(2, 0, -1, 0, -1, -1), 1);
        EDGE.due("inductive()", EDGE.desk.inductive(), -1);
        run(2000, 0, 4, 21, 0);
    }

    private static void outsideOfWhatIsTooMuch() {
        EDGE.promise(20, "(no run counts of a program whose analysis was too much)");
        EDGE.fresh();
        EDGE.due("end()", EDGE.desk.load(Edge.tooMuch()), 3);
        // one step for the var, 22 up to the innermost while, and then its COND and its if in turn
        run(2000, 16, 24, 2000, 0);
        EDGE.desk.input(1);
        run(2000, 0, 25, 2, 1);
        String trap = Edge.tooMuch().replace("var x;", "var x=1/any;");
        EDGE.due("end()", EDGE.desk.load(trap), 3);
        EDGE.desk.input(1);
        run(2000, 0, 25, 2, 2);
        EDGE.desk.drop();
        run(2000, 2, 0, 1, 0);
    }
}
