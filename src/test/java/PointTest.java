/** Promises 5 and 6: points, their statements, places, alarms and slots. */
public final class PointTest {
    private static final Trial TRIAL = new Trial("PointTest");

    public static void main(String[] args) {
        kinds();
        slots();
        alarms();
        somethingKnown();
        callsThatLeaveNothing();
        wrongInputs();
        programsBehindOthers();
        TRIAL.finish();
    }

    private static void point(int p, int kind, int place, int alarms, int numbers, int arrays, int known) {
        TRIAL.due("point(" + p + ", 0)", TRIAL.desk.point(p, 0), kind);
        TRIAL.due("point(" + p + ", 1)", TRIAL.desk.point(p, 1), place);
        TRIAL.due("point(" + p + ", 2)", TRIAL.desk.point(p, 2), alarms);
        TRIAL.due("point(" + p + ", 3)", TRIAL.desk.point(p, 3), numbers);
        TRIAL.due("point(" + p + ", 4)", TRIAL.desk.point(p, 4), arrays);
        TRIAL.due("point(" + p + ", 5)", TRIAL.desk.point(p, 5), known);
        TRIAL.due("point(" + p + ", 6)", TRIAL.desk.point(p, 6), known);
    }

    private static void kinds() {
        String text = " fun f(a){return a+1;}\nfun m(){var x;var t[3]; x=f(x);if(x<2){t[x]=1;}else{x=2;}while(x>0){x=x-1;f(x);}"
            + "assert(x==0);}";
        TRIAL.program(text);
        TRIAL.due("points()", TRIAL.desk.points(), 13);
        point(0, 1, text.indexOf("var x"), 0, 0, 0, 1);
        point(1, 1, text.indexOf("var t"), 0, 1, 0, 1);
        point(2, 4, text.indexOf("x=f"), 0, 1, 1, 1);
        point(3, 8, text.indexOf("return"), 0, 2, 1, 1);
        point(4, 5, text.indexOf("if"), 0, 1, 1, 1);
        point(5, 3, text.indexOf("t[x]"), 0, 1, 1, 1);
        point(6, 2, text.indexOf("x=2"), 0, 1, 1, 0);
        point(7, 6, text.indexOf("while"), 0, 1, 1, 1);
        point(8, 2, text.indexOf("x=x-1"), 0, 1, 1, 1);
        point(9, 4, text.lastIndexOf("f(x)"), 0, 1, 1, 1);
        point(10, 8, text.indexOf("return"), 0, 2, 1, 1);
        point(11, 7, text.indexOf("assert"), 0, 1, 1, 1);
        point(12, 0, 0, 0, 0, 0, 1);
    }

    private static void slots() {
        TRIAL.program("fun g(p){var q=p;}fun f(a,b){if(a<b){var c;g(c);}}fun m(){var x;f(1,x);if(1<2){var y;var z[2];}else"
            + "{var w[3];}var v;}");
        int[] numbers = {0, 1, 3, 3, 4, 5, 1, 1, 2, 1, 1, 0};
        int[] arrays = {0, 0, 0, 0, 0, 0, 0, 0, 0, 0, 0, 0};
        TRIAL.due("points()", TRIAL.desk.points(), numbers.length);
        for (int p = 0; p < numbers.length; p++) {
            TRIAL.due("point(" + p + ", 3)", TRIAL.desk.point(p, 3), numbers[p]);
            TRIAL.due("point(" + p + ", 4)", TRIAL.desk.point(p, 4), arrays[p]);
        }
        TRIAL.program("fun m(){var a[2];if(1<2){var b[2];b[0]=1;}var c[3];c[1]=1;}");
        int[] rows = {0, 1, 1, 2, 1, 2, 0};
        for (int p = 0; p < rows.length; p++) {
            TRIAL.due("point(" + p + ", 4)", TRIAL.desk.point(p, 4), rows[p]);
        }
    }

    private static void alarm(int want, String statements) {
        String text = "fun m(){var x=any;var y=any;var t[4];if(1<2){" + statements + "}}";
        TRIAL.program(text);
        int found = 0;
        for (int p = 4; p < TRIAL.desk.points(); p++) {
            found |= TRIAL.desk.point(p, 2);
        }
        TRIAL.due("alarms of " + text, found, want);
    }

    private static void alarms() {
        alarm(0, "var z=x;z=any(0,9)+any(-9,0);");
        alarm(1, "var z=x+1;");
        alarm(1, "var z=-x;");
        alarm(1, "var z=x-y;");
        alarm(0, "var z=x-x;");
        alarm(1, "var z=x*any(0,2);");
        alarm(0, "var z=x*any(0,1);");
        alarm(3, "var z=x/y;");
        alarm(1, "var z=x/any(-3,-1);");
        alarm(0, "var z=x/any(-3,-2);");
        alarm(2, "var z=x%y;");
        alarm(2, "var z=x/0;z=t[9];");
        alarm(2, "var z=x/0+t[9];");
        alarm(6, "var z=t[9/any(-1,3)];");
        alarm(4, "var z=t[x];");
        alarm(0, "var z=t[any(0,3)];");
        alarm(4, "var z=t[any(0,4)];");
        alarm(4, "var z=t[any(-1,3)];");
        alarm(4, "t[4]=x/0;");
        alarm(6, "t[any(3,4)]=x/0;");
        alarm(4, "t[x]=1;");
        alarm(8, "assert(x<5);");
        alarm(0, "assert(x<5||x>=5);");
        alarm(8, "assert(2<1);");
        alarm(2, "assert(1/0<1);");
        alarm(10, "assert(1/x<1);");
        alarm(0, "if(x!=0&&5/1>x){}");
        alarm(2, "if(x<0&&5/x>1||5/x<1){}");
        alarm(0, "if(x<0&&5/x>1){}");
        alarm(0, "if(x>=0||5/x>1){}");
        alarm(2, "if(x>=0&&5/x>1){}");
        alarm(0, "if(2<1&&5/0>1){}");
        alarm(2, "while(5/x>1){x=1;}");
    }

    private static void somethingKnown() {
        TRIAL.program("fun f(a){a=1;}fun m(){var x=any;if(x/0<1){x=1;}else{x=2;}f(x);while(x<1){x=1;}}");
        for (int p = 0; p < 9; p++) {
            TRIAL.due("point(" + p + ", 5)", TRIAL.desk.point(p, 5), p < 2 ? 1 : 0);
            TRIAL.due("point(" + p + ", 2)", TRIAL.desk.point(p, 2), p == 1 ? 2 : 0);
        }
        TRIAL.due("told(2)", TRIAL.desk.told(2), 2);
        TRIAL.due("point(4, 3)", TRIAL.desk.point(4, 3), 1);
        TRIAL.due("point(5, 3)", TRIAL.desk.point(5, 3), 2);
        TRIAL.due("claimNothing(0)", TRIAL.desk.claimNothing(0), 1);
        TRIAL.due("point(0, 5)", TRIAL.desk.point(0, 5), 1);
        TRIAL.due("point(0, 6)", TRIAL.desk.point(0, 6), 0);
    }

    /** A call where x + y + z has a range of some ints, but no value by all that is known. */
    private static void call(int want, int known, String sums) {
        String big = "=any(0,2147483647);";
        String text = "fun f(a,b,c){a=b;}fun m(){var t[4];var x" + big + "var y" + big + "var z" + big
            + "if(x+y>=2147483640&&y+z>=2147483640&&x+z>=2147483640){f(" + sums + ");x=1/0;}}";
        TRIAL.program(text);
        TRIAL.due("alarms of f(" + sums + ")", TRIAL.desk.point(5, 2), want);
        TRIAL.due("known in f(" + sums + ")", TRIAL.desk.point(6, 5), known);
        TRIAL.due("known behind f(" + sums + ")", TRIAL.desk.point(7, 5), known);
        TRIAL.due("alarms behind f(" + sums + ")", TRIAL.desk.point(7, 2), known == 1 ? 2 : 0);
        TRIAL.due("work of f(" + sums + ")", TRIAL.desk.told(2), known == 1 ? 8 : 6);
        TRIAL.due("inductive() of f(" + sums + ")", TRIAL.desk.inductive(), -1);
    }

    private static void callsThatLeaveNothing() {
        call(1, 0, "x+y+z,1/0,1");
        call(1, 0, "x+y+z,1,t[9]");
        call(1, 0, "x+y+z,1/any,t[any]");
        call(1, 0, "1,x+y+z,1/0");
        call(1, 0, "1,2,x+y+z");
        call(2, 0, "1/0,x+y+z,t[9]");
        call(3, 0, "1/any(0,1),x+y+z,t[9]");
        call(5, 0, "t[any],x+y+z,1/any");
        call(1, 1, "x+y,y+z,x+z");
        call(3, 0, "x+y,1/0,t[9]");
        call(7, 1, "x+y,1/any,t[any]");
        call(0, 1, "x,y,z");
        // ranges are those from before the call, so that what a parameter leaves out of x still counts for the next one
        call(5, 1, "x+2147483640,t[x],1");
    }

    private static void wrongInputs() {
        TRIAL.program("fun m(){var x;}");
        int[] noPoints = {-1, 2, 250, Integer.MAX_VALUE, Integer.MIN_VALUE};
        for (int p : noPoints) {
            for (int what = -1; what <= 7; what++) {
                TRIAL.due("point(" + p + ", " + what + ")", TRIAL.desk.point(p, what), -1);
            }
        }
        int[] noWhats = {-1, 7, Integer.MAX_VALUE, Integer.MIN_VALUE};
        for (int what : noWhats) {
            TRIAL.due("point(0, " + what + ")", TRIAL.desk.point(0, what), -1);
            TRIAL.due("point(1, " + what + ")", TRIAL.desk.point(1, what), -1);
        }
    }

    /** Nothing of a program stays when another one comes. */
    private static void programsBehindOthers() {
        TRIAL.program("fun f(a){var t[2];a=a/0;}fun m(){var x;x=any+1;f(x);x=1/any;x=1/any;}");
        TRIAL.due("alarm", TRIAL.desk.point(4, 2), 2);
        TRIAL.due("end()", TRIAL.load("fun m(){var x;x=1;x=2;x=3;}"), 0);
        point(4, 0, 0, 0, 0, 0, 1);
        TRIAL.load("fun m(){var x=any+1;}");
        point(0, 1, 8, 1, 0, 0, 1);
        TRIAL.load("fun m(){}");
        point(0, 0, 0, 0, 0, 0, 1);
        TRIAL.load("fun m(){var x=1/any;x=1/any;x=1/any;}");
        TRIAL.load("fun m(){var x=1/0;x=1/any;x=1/any;}");
        point(0, 1, 8, 2, 0, 0, 1);
        point(1, 2, 18, 0, 1, 0, 0);
        point(2, 2, 26, 0, 1, 0, 0);
        point(3, 0, 0, 0, 0, 0, 0);
    }
}
