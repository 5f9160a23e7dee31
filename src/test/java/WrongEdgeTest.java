/** Paragraphs of 'Terms' on NAMES and on WHAT IS WRONG, at their edges. */
public final class WrongEdgeTest {
    private static final Edge EDGE = new Edge("WrongEdgeTest");
    private static final String NAMES = "NAMES.";
    private static final String WRONG = "A call is as if";
    private static final String ORDER = "7 for parameters comes before all.";
    private static final String EMPTY = "if(1<2){}";

    public static void main(String[] args) {
        functionsThatAreMeant();
        functionsAlone();
        theProgram();
        fromBehindTheStatement();
        upToTheEndOfTheBlock();
        innermostAndLatest();
        onlyItsOwn();
        functionsThatAreNotCalled();
        asOftenAsCalled();
        callsAsIfTheBlockStoodThere();
        namesThatMeanNothing();
        namesThatAnotherHas();
        arraysAndNumbers();
        callsOfNoFunction();
        tooManySumsOrTooFew();
        returns();
        valuesOfFunctions();
        theProgramItself();
        limits();
        sizesOfArrays();
        twelveNumbers();
        twelveNumbersWithParameters();
        sixArrays();
        pointsWithTheEnd();
        pointsByCalls();
        placesOfTokens();
        sevenBeforeAll();
        elevenFirst();
        fromTheLeft();
        callsInThisOrder();
        returnsBeforeTheirSums();
        parametersThenLimits();
        orderOfPoints();
        EDGE.finish();
    }

    private static void points(String text, int points) {
        EDGE.right(text);
        EDGE.due("points() of " + text, EDGE.desk.points(), points);
    }

    private static void functionsThatAreMeant() {
        EDGE.terms(NAMES, "A function is meant by its name from behind its BLOCK on (so none calls itself), the latest one of a name "
            + "before the place at which the call stands in the text");
        EDGE.mistaken(4, "fun m(){@m();}");
        EDGE.mistaken(4, "fun f(){@f();}fun m(){f();}");
        EDGE.mistaken(4, "fun f(){if(1<2){@f();}}fun m(){f();}");
        EDGE.mistaken(4, "fun f(){@g();}fun g(){}fun m(){f();}");
        points("fun f(){}fun f(){f();}fun m(){f();}", 3);
        points("fun f(){}fun f(){f();}fun f(){f();f();}fun m(){f();}", 6);
        points("fun f(){}fun g(){f();}fun f(a){var x;}fun m(){g();}", 3);
        points("fun f(a){a=1;a=2;}fun f(a){}fun m(){f(1);}", 2);
        EDGE.mistaken(5, "fun f(a){}fun g(){@f();}fun f(){}fun m(){g();}");
        EDGE.mistaken(5, "fun f(){}fun f(a){}fun m(){@f();}");
        points("fun m(){}fun m(){m();}", 2);
    }

    private static void functionsAlone() {
        EDGE.terms(NAMES, "functions are looked for among functions alone, whatever vars there are");
        points("fun f(){}fun m(){var f;f();f=1;}", 4);
        points("fun f(){}fun m(){var f[3];f();f[1]=1;}", 4);
        points("fun f(f){f=f+1;return f;}fun m(){var f;f=f(f);}", 5);
        EDGE.mistaken(4, "fun m(){var f;@f();}");
        EDGE.mistaken(1, "fun x(){return 1;}fun m(){var y=@x;}");
        EDGE.mistaken(1, "fun x(){}fun m(){@x=1;}");
    }

    private static void theProgram() {
        EDGE.terms(NAMES, "The last function is the PROGRAM.");
        points("fun m(){var x;var y;}fun k(){var x;}", 2);
        points("fun m(){}", 1);
        points("fun f(a){return a;}fun m(){}", 1);
        EDGE.mistaken(7, "fun m(){}fun @f(a){}");
    }

    private static void fromBehindTheStatement() {
        EDGE.terms(NAMES, "A var, or a parameter, is meant from behind its statement (its head) on");
        EDGE.mistaken(1, "fun m(){@x=1;var x;}");
        EDGE.mistaken(1, "fun m(){var x=@x;}");
        EDGE.mistaken(1, "fun m(){var x=1+@x;}");
        EDGE.right("fun m(){var x;x=x;}");
        EDGE.right("fun m(){var x=1;if(1<2){var x=x;}}");
        EDGE.right("fun m(){var x[2];if(1<2){var x=x[1];}}");
        EDGE.right("fun f(a){a=a;}fun m(){f(1);}");
        EDGE.program("fun m(){var x=5;if(1<2){var x=x+2;x=x;}}");
        EDGE.known(3, "x in 5..5, x in 7..7");
    }

    private static void upToTheEndOfTheBlock() {
        EDGE.terms(NAMES, "on up to the end of the BLOCK that it is in (of the function's)");
        EDGE.right("fun m(){if(1<2){var x;x=1;}}");
        EDGE.mistaken(1, "fun m(){if(1<2){var x;}@x=1;}");
        EDGE.mistaken(1, "fun m(){if(1<2){var x;}else{@x=1;}}");
        EDGE.mistaken(1, "fun m(){if(1<2){}else{var x;}@x=1;}");
        EDGE.mistaken(1, "fun m(){while(@x<1){var x;}}");
        EDGE.mistaken(1, "fun m(){while(1<2){var x;}@x=1;}");
        EDGE.mistaken(1, "fun m(){if(1<2){if(1<2){var x;}@x=1;}}");
        EDGE.right("fun f(a){if(1<2){while(a<1){a=1;}}a=2;return a;}fun m(){f(1);}");
        EDGE.mistaken(1, "fun f(a){}fun m(){f(1);@a=1;}");
    }

    private static void innermostAndLatest() {
        EDGE.terms(NAMES, "the innermost, latest one is meant");
        EDGE.right("fun m(){var x[2];if(1<2){var x;x=1;}x[0]=1;}");
        EDGE.mistaken(3, "fun m(){var x[2];if(1<2){var x;@x[0]=1;}}");
        EDGE.mistaken(3, "fun m(){var x;if(1<2){var x[2];@x=1;}}");
        EDGE.program("fun m(){var x=1;if(1<2){var x=2;if(1<2){var x=3;x=4;x=x;}x=5;x=x;}x=6;x=x;}");
        EDGE.known(6, "x in 1..1, x in 2..2, x in 4..4");
        EDGE.known(8, "x in 1..1, x in 5..5");
        EDGE.known(10, "x in 6..6");
        EDGE.program("fun f(a){if(1<2){var a=2;a=3;a=a;}a=4;a=a;}fun m(){f(1);}");
        EDGE.known(4, "a in 1..1, a in 3..3");
        EDGE.known(6, "a in 4..4");
    }

    private static void onlyItsOwn() {
        EDGE.terms(NAMES, "Within a function only its own are.");
        EDGE.mistaken(1, "fun f(){@x=1;}fun m(){var x;f();}");
        EDGE.mistaken(1, "fun f(){@x[0]=1;}fun m(){var x[1];f();}");
        EDGE.mistaken(1, "fun g(){@a=1;}fun f(a){g();}fun m(){f(1);}");
        EDGE.program("fun f(x){x=x+1;x=x;}fun m(){var x=1;f(x);x=x;}");
        EDGE.known(3, "x in 1..1, x in 2..2");
        EDGE.known(4, "x in 1..1");
    }

    private static void functionsThatAreNotCalled() {
        EDGE.terms(WRONG, "one that is never called not at all but for its tokens");
        String all = "fun u(a,a){x=1;t[0]=t;u();v(1);return 3;y=u(1);var b[0];var c[65];var d=any(2,1);var d;return e;}";
        points(all + "fun m(){}", 1);
        points(all + "fun w(){u(1,2);}fun m(){}", 1);
        points(all + "fun u(){}fun m(){u();}", 2);
        EDGE.fault("fun u(){x=@;}fun m(){}");
        points("fun u(){" + "var x;".repeat(300) + "}fun m(){}", 1);
        StringBuilder vars = new StringBuilder();
        for (int k = 0; k < 40; k++) {
            vars.append("var a").append(k).append(";var b").append(k).append("[2];b").append(k).append("[1]=b").append(k).append("[0];");
        }
        points("fun u(){" + vars + "}fun m(){}", 1);
    }

    private static void asOftenAsCalled() {
        EDGE.terms(WRONG, "a function is looked at for each call of it that the program comes to have so");
        EDGE.mistaken(1, "fun f(){@x=1;}fun m(){f();}");
        EDGE.mistaken(1, "fun f(){@x=1;}fun m(){if(2<1){f();}}");
        EDGE.mistaken(1, "fun f(){@x=1;}fun g(){f();}fun m(){while(2<1){g();}}");
        points("fun f(){var x;}fun m(){f();f();}", 5);
        // the same function is right for the first call and has too many numbers for the second one
        EDGE.mistaken(10, "fun f(){@var x;}fun m(){f();" + numbers(12) + "f();}");
    }

    private static void callsAsIfTheBlockStoodThere() {
        EDGE.terms(WRONG, "A call is as if the function's BLOCK stood there, with the parameters as variables in front of it");
        EDGE.program("fun g(c){var d=c;d=d;}fun f(a,b){g(b);}fun m(){var x=1;var t[2];f(2,3);x=x;}");
        int[] numbers = {0, 1, 1, 3, 4, 5, 1, 0};
        EDGE.due("points()", EDGE.desk.points(), numbers.length);
        for (int p = 0; p < numbers.length; p++) {
            EDGE.due("point(" + p + ", 3)", EDGE.desk.point(p, 3), numbers[p]);
            EDGE.due("point(" + p + ", 4)", EDGE.desk.point(p, 4), p < 2 || p == 7 ? 0 : 1);
        }
        EDGE.known(5, "x in 1..1, a in 2..2, b in 3..3, c in 3..3, d in 3..3, t[] in 0..0");
    }

    private static void namesThatMeanNothing() {
        EDGE.terms(WRONG, "1 a NAME that means nothing");
        EDGE.mistaken(1, "fun m(){@x=1;}");
        EDGE.mistaken(1, "fun m(){@x[0]=1;}");
        EDGE.mistaken(1, "fun m(){var t[2];t[@x]=1;}");
        EDGE.mistaken(1, "fun m(){var t[2];t[0]=@x;}");
        EDGE.mistaken(1, "fun m(){var y=@x[0];}");
        EDGE.mistaken(1, "fun m(){var t[2];var y=t[@x];}");
        EDGE.mistaken(1, "fun m(){var y=-(1*@x);}");
        EDGE.mistaken(1, "fun f(a){}fun m(){f(@x);}");
        EDGE.mistaken(1, "fun f(){return 1;}fun m(){@x=f();}");
        EDGE.mistaken(1, "fun f(){return @x;}fun m(){f();}");
        EDGE.mistaken(1, "fun m(){if(@x<1){}}");
        EDGE.mistaken(1, "fun m(){while(1<@x){}}");
        EDGE.mistaken(1, "fun m(){assert(1<2||![2<1&&@x<1]);}");
    }

    private static void namesThatAnotherHas() {
        EDGE.terms(WRONG, "2 a var or parameter with a name that another one in the same BLOCK (for a function's BLOCK, its parameters "
            + "too) has");
        EDGE.mistaken(2, "fun m(){var x;var @x;}");
        EDGE.mistaken(2, "fun m(){var x;var @x=1;}");
        EDGE.mistaken(2, "fun m(){var x;var @x[2];}");
        EDGE.mistaken(2, "fun m(){var x[2];var @x;}");
        EDGE.mistaken(2, "fun m(){var x[2];var @x[2];}");
        EDGE.mistaken(2, "fun m(){var x;if(1<2){var x;var y;var @x;}}");
        EDGE.mistaken(2, "fun m(){var x;if(1<2){var x;}var @x;}");
        EDGE.mistaken(2, "fun m(){var x;var y;var @y;}");
        EDGE.mistaken(2, "fun m(){var x;var y;var z;var @y[2];}");
        EDGE.mistaken(2, "fun f(a){var @a;}fun m(){f(1);}");
        EDGE.mistaken(2, "fun f(a,b){var @b;}fun m(){f(1,2);}");
        EDGE.mistaken(2, "fun f(a,b){var c;var @c;}fun m(){f(1,2);}");
        EDGE.mistaken(2, "fun f(a,b,@b){}fun m(){f(1,2,3);}");
        EDGE.mistaken(2, "fun f(a){var @a[2];}fun m(){f(1);}");
        EDGE.mistaken(2, "fun f(a,@a){}fun m(){f(1,2);}");
        EDGE.mistaken(2, "fun f(a,b,@a,b){}fun m(){f(1,2,3,4);}");
        EDGE.right("fun f(a){if(1<2){var a;}while(1<2){var a[2];}}fun m(){var a;f(1);}");
        EDGE.right("fun m(){if(1<2){var x;}else{var x;}if(1<2){var x;}var x;}");
    }

    private static void arraysAndNumbers() {
        EDGE.terms(WRONG, "3 an array where a number must stand, or the other way round");
        EDGE.mistaken(3, "fun m(){var t[2];@t=1;}");
        EDGE.mistaken(3, "fun m(){var t[2];var x=@t;}");
        EDGE.mistaken(3, "fun m(){var t[2];t[@t]=1;}");
        EDGE.mistaken(3, "fun m(){var t[2];t[0]=@t;}");
        EDGE.mistaken(3, "fun m(){var t[2];if(@t<1){}}");
        EDGE.mistaken(3, "fun f(a){}fun m(){var t[2];f(@t);}");
        EDGE.mistaken(3, "fun f(){return 1;}fun m(){var t[2];@t=f();}");
        EDGE.mistaken(3, "fun f(){var t[2];return @t;}fun m(){f();}");
        EDGE.mistaken(3, "fun m(){var x;@x[0]=1;}");
        EDGE.mistaken(3, "fun m(){var x;var y=@x[0];}");
        EDGE.mistaken(3, "fun f(a){@a[0]=1;}fun m(){f(1);}");
    }

    private static void callsOfNoFunction() {
        EDGE.terms(WRONG, "4 a call of no function");
        EDGE.mistaken(4, "fun m(){@f();}");
        EDGE.mistaken(4, "fun m(){var x;x=@f();}");
        EDGE.mistaken(4, "fun m(){@f(1,2);}");
        EDGE.mistaken(4, "fun F(){}fun f_(){}fun m(){@f();}");
    }

    private static void tooManySumsOrTooFew() {
        EDGE.terms(WRONG, "5 a call with too many SUMs or too few");
        String[] parameters = {"", "a", "a,b", "a,b,c"};
        String[] sums = {"", "1", "1,2", "1,2,3"};
        for (int has = 0; has < 4; has++) {
            for (int gets = 0; gets < 4; gets++) {
                String function = "fun f(" + parameters[has] + "){return 1;}fun m(){var x;";
                if (has == gets) {
                    EDGE.right(function + "f(" + sums[gets] + ");x=f(" + sums[gets] + ");}");
                } else {
                    EDGE.mistaken(5, function + "@f(" + sums[gets] + ");}");
                    EDGE.mistaken(5, function + "x=@f(" + sums[gets] + ");}");
                }
            }
        }
    }

    private static void returns() {
        EDGE.terms(WRONG, "6 a return that is not the last statement of its function's BLOCK");
        EDGE.right("fun f(){return 1;}fun m(){f();}");
        EDGE.right("fun f(){if(1<2){}return 1;}fun m(){f();}");
        EDGE.mistaken(6, "fun f(){@return 1;if(1<2){}}fun m(){f();}");
        EDGE.mistaken(6, "fun f(){@return 1;return 1;}fun m(){f();}");
        EDGE.mistaken(6, "fun f(){if(1<2){@return 1;}}fun m(){f();}");
        EDGE.mistaken(6, "fun f(){if(1<2){}else{@return 1;}}fun m(){f();}");
        EDGE.mistaken(6, "fun f(){while(1<2){@return 1;}}fun m(){f();}");
        EDGE.mistaken(6, "fun f(){if(1<2){@return 1;}return 1;}fun m(){var x;x=f();}");
        EDGE.mistaken(6, "fun m(){@return 1;if(1<2){}}");
        EDGE.mistaken(6, "fun m(){if(1<2){@return 1;}}");
    }

    private static void valuesOfFunctions() {
        EDGE.terms(WRONG, "or a value of a function that does not return");
        EDGE.right("fun f(){return 1;}fun m(){var x;x=f();f();}");
        EDGE.right("fun f(){}fun m(){var x;f();}");
        EDGE.mistaken(6, "fun f(){}fun m(){var x;x=@f();}");
        EDGE.mistaken(6, "fun f(a){a=1;}fun m(){var x;x=@f(x);}");
        EDGE.mistaken(6, "fun g(){return 1;}fun f(){g();}fun m(){var x;x=@f();}");
        EDGE.mistaken(6, "fun f(){return 1;}fun f(){}fun m(){var x;x=@f();}");
    }

    private static void theProgramItself() {
        EDGE.terms(WRONG, "7 the program has parameters, or a return as its last statement");
        EDGE.mistaken(7, "fun @m(a){}");
        EDGE.mistaken(7, "fun @m(a,b){var x;}");
        EDGE.mistaken(7, "fun m(){@return 1;}");
        EDGE.mistaken(7, "fun m(){var x; @return x;}");
        EDGE.right("fun m(){}");
        EDGE.right("fun f(a){return a;}fun m(){}");
    }

    private static void limits() {
        EDGE.terms(WRONG, "8 the first LIMIT above the second one");
        String[] right = {"0,0", "0,1", "-1,-1", "-1,0", "-2,-1", "2147483647,2147483647", "-2147483647,-2147483647",
            "-2147483647,2147483647", "-0,0", "0,-0"};
        for (String limits : right) {
            EDGE.right("fun m(){var x=any(" + limits + ");}");
        }
        String[] wrong = {"1,0", "0,-1", "-1,-2", "2147483647,2147483646", "-2147483646,-2147483647", "2147483647,-2147483647"};
        for (String limits : wrong) {
            EDGE.mistaken(8, "fun m(){var x=any(@" + limits + ");}");
            EDGE.mistaken(8, "fun m(){if(1<2&&1<-any( @" + limits + ")){}}");
        }
    }

    private static void sizesOfArrays() {
        EDGE.terms(WRONG, "9 an array that has not 1 to 64 places");
        EDGE.mistaken(9, "fun m(){var t[@0];}");
        EDGE.right("fun m(){var t[1];}");
        EDGE.right("fun m(){var t[2];}");
        EDGE.right("fun m(){var t[63];}");
        EDGE.right("fun m(){var t[64];}");
        EDGE.mistaken(9, "fun m(){var t[@65];}");
        EDGE.mistaken(9, "fun m(){var t[@128];}");
        EDGE.mistaken(9, "fun m(){var t[@2147483647];}");
        EDGE.mistaken(9, "fun f(){var t[@65];}fun m(){f();}");
    }

    private static String numbers(int count) {
        StringBuilder text = new StringBuilder();
        for (int k = 0; k < count; k++) {
            text.append("var n").append(k).append(";");
        }
        return text.toString();
    }

    private static String arrays(int count) {
        StringBuilder text = new StringBuilder();
        for (int k = 0; k < count; k++) {
            text.append("var t").append(k).append("[1];");
        }
        return text.toString();
    }

    private static void twelveNumbers() {
        EDGE.terms(WRONG, "10 more than 12 numbers");
        EDGE.right("fun m(){" + numbers(12) + "}");
        EDGE.due("numbers at the 12th var", EDGE.desk.point(11, 3), 11);
        EDGE.right("fun m(){" + numbers(12) + arrays(6) + "n11=1;}");
        EDGE.due("numbers at the last statement", EDGE.desk.point(18, 3), 12);
        EDGE.mistaken(10, "fun m(){" + numbers(12) + "@var x;}");
        EDGE.mistaken(10, "fun m(){" + numbers(12) + "@var x=1;}");
        EDGE.mistaken(10, "fun m(){" + numbers(6) + "if(1<2){" + numbers(6) + "@var x;}}");
        EDGE.right("fun m(){" + numbers(6) + "if(1<2){" + numbers(6) + "}else{" + numbers(6) + "}while(1<2){" + numbers(6) + "}}");
        EDGE.right("fun m(){if(1<2){" + numbers(12) + "}" + numbers(12) + "}");
        EDGE.right("fun f(){" + numbers(6) + "}fun m(){" + numbers(6) + "f();}");
        EDGE.mistaken(10, "fun f(){" + numbers(6) + "@var x;}fun m(){" + numbers(6) + "f();}");
        EDGE.right("fun f(){" + numbers(12) + "}fun m(){f();f();" + numbers(12) + "}");
    }

    private static void twelveNumbersWithParameters() {
        EDGE.terms(WRONG, "(for parameters, that of the call)");
        EDGE.right("fun f(a,b){}fun m(){" + numbers(10) + "f(1,2);}");
        EDGE.mistaken(10, "fun f(a,b){}fun m(){" + numbers(11) + "@f(1,2);}");
        EDGE.mistaken(10, "fun f(a,b){return 1;}fun m(){" + numbers(11) + "@n0=f(1,2);}");
        EDGE.mistaken(10, "fun f(a){}fun m(){" + numbers(12) + "@f(1);}");
        EDGE.right("fun f(){}fun m(){" + numbers(12) + "f();}");
        EDGE.right("fun f(a,b,c,d,e,f,g,h,i,j,k,l){}fun m(){f(1,2,3,4,5,6,7,8,9,10,11,12);}");
        EDGE.mistaken(10, "fun f(a,b,c,d,e,f,g,h,i,j,k,l,m){}fun m(){@f(1,2,3,4,5,6,7,8,9,10,11,12,13);}");
        EDGE.mistaken(10, "fun f(a,b){@var c;}fun m(){" + numbers(10) + "f(1,2);}");
        EDGE.mistaken(10, "fun g(c){}fun f(a,b){ @g(1);}fun m(){" + numbers(10) + "f(1,2);}");
    }

    private static void sixArrays() {
        EDGE.terms(WRONG, "13 more than 6 arrays, at a time");
        EDGE.right("fun m(){" + arrays(6) + "}");
        EDGE.right("fun m(){" + arrays(6) + numbers(12) + "t5[0]=1;}");
        EDGE.due("arrays at the last statement", EDGE.desk.point(18, 4), 6);
        EDGE.mistaken(13, "fun m(){" + arrays(6) + "@var u[1];}");
        EDGE.mistaken(13, "fun m(){" + arrays(3) + "if(1<2){" + arrays(3) + "@var u[1];}}");
        EDGE.right("fun m(){" + arrays(3) + "if(1<2){" + arrays(3) + "}else{" + arrays(3) + "}while(1<2){" + arrays(3) + "}}");
        EDGE.right("fun f(){" + arrays(6) + "}fun m(){f();f();" + arrays(6) + "}");
        EDGE.mistaken(13, "fun f(){@var u[1];}fun m(){" + arrays(6) + "f();}");
        EDGE.mistaken(13, "fun m(){" + numbers(12) + arrays(6) + "@var u[1];}");
        EDGE.mistaken(10, "fun m(){" + numbers(12) + arrays(6) + "@var u;}");
    }

    private static void pointsWithTheEnd() {
        EDGE.terms(WRONG, "11 more than 250 points, the end too (so a 250th statement)");
        points("fun m(){" + EMPTY.repeat(249) + "}", 250);
        EDGE.mistaken(11, "fun m(){" + EMPTY.repeat(249) + "@" + EMPTY + "}");
        EDGE.mistaken(11, "fun m(){" + EMPTY.repeat(249) + "@" + EMPTY.repeat(100) + "}");
        points("fun m(){" + EMPTY.repeat(247) + "if(1<2){}else{" + EMPTY + "}}", 250);
        EDGE.mistaken(11, "fun m(){" + EMPTY.repeat(247) + "if(1<2){" + EMPTY + "}else{@" + EMPTY + "}}");
        EDGE.mistaken(11, "fun m(){" + EMPTY.repeat(248) + "while(1<2){@" + EMPTY + "}}");
        EDGE.mistaken(11, "fun m(){" + EMPTY.repeat(248) + "while(2<1){}@var x;}");
    }

    private static void pointsByCalls() {
        EDGE.terms(WRONG, "11 more than 250 points, the end too (so a 250th statement)");
        String function = "fun f(){" + EMPTY + "var x;}";
        points(function + "fun m(){" + EMPTY.repeat(246) + "f();}", 250);
        EDGE.mistaken(11, "fun f(){" + EMPTY + "@var x;}fun m(){" + EMPTY.repeat(247) + "f();}");
        EDGE.mistaken(11, "fun f(){@" + EMPTY + "var x;}fun m(){" + EMPTY.repeat(248) + "f();}");
        EDGE.mistaken(11, function + "fun m(){" + EMPTY.repeat(249) + "@f();}");
        points("fun f(){}fun m(){" + "f();".repeat(249) + "}", 250);
        EDGE.mistaken(11, "fun f(){}fun m(){" + "f();".repeat(249) + "@f();}");
        points("fun f(){" + EMPTY + "}fun m(){" + "f();".repeat(124) + EMPTY + "}", 250);
        StringBuilder chain = new StringBuilder("fun f0(){}");
        for (int k = 1; k < 249; k++) {
            chain.append("fun f").append(k).append("(){f").append(k - 1).append("();}");
        }
        points(chain + "fun m(){f248();}", 250);
        // one function more in the chain: then its innermost call is the 250th statement
        EDGE.mistaken(11, chain.toString().replace("fun f1(){f0();}", "fun f1(){@f0();}") + "fun g(){f248();}fun m(){g();}");
    }

    private static void placesOfTokens() {
        EDGE.terms(WRONG, "It lies at the place of the token that is named: the NAME (of a parameter where it is told), the first LIMIT "
            + "(its -, if it has one), the NUMBER, return, for 4, 5 and 6 (no return) the function's NAME in the call, for 7 the "
            + "program's NAME, or return, for 10, 11, 13 the first token of the statement with which there are too many");
        EDGE.mistaken(1, "fun m ( ) { var y = 1 + // \n @x ; }");
        EDGE.mistaken(2, "fun m ( ) { var x ; var // \n @x ; }");
        EDGE.mistaken(2, "fun f ( a , @a ) { } fun m ( ) { f ( 1 , 2 ) ; }");
        EDGE.mistaken(3, "fun m ( ) { var t [ 2 ] ; @t = 1 ; }");
        EDGE.mistaken(4, "fun m ( ) { var x ; x = @f ( ) ; }");
        EDGE.mistaken(5, "fun f ( ) { return 1 ; } fun m ( ) { var x ; x = @f ( 1 ) ; }");
        EDGE.mistaken(6, "fun f ( ) { } fun m ( ) { var x ; x = @f ( ) ; }");
        EDGE.mistaken(6, "fun f ( ) { @return 1 ; var x ; } fun m ( ) { f ( ) ; }");
        EDGE.mistaken(7, "fun @m ( a ) { }");
        EDGE.mistaken(7, "fun m ( ) { @return 1 ; }");
        EDGE.mistaken(8, "fun m ( ) { var x = any ( @- 1 , - 2 ) ; }");
        EDGE.mistaken(8, "fun m ( ) { var x = any ( @1 , 0 ) ; }");
        EDGE.mistaken(9, "fun m ( ) { var t [ @65 ] ; }");
        EDGE.mistaken(10, "fun m ( ) { " + numbers(12) + " @var x ; }");
        EDGE.mistaken(11, "fun m ( ) { " + EMPTY.repeat(249) + " @var x ; }");
        EDGE.mistaken(13, "fun m ( ) { " + arrays(6) + " @var u [ 1 ] ; }");
    }

    private static void sevenBeforeAll() {
        EDGE.terms(ORDER, "7 for parameters comes before all.");
        EDGE.mistaken(7, "fun @m(a){x=1;}");
        EDGE.mistaken(7, "fun @m(a,a){}");
        EDGE.mistaken(7, "fun @m(a){var a;}");
        EDGE.mistaken(7, "fun @m(a){return 1;}");
        EDGE.mistaken(7, "fun @m(a){" + EMPTY.repeat(260) + "}");
        EDGE.mistaken(7, "fun @m(a,b,c,d,e,f,g,h,i,j,k,l,m){}");
        EDGE.mistaken(7, "fun f(){x=1;}fun @m(a){f();}");
    }

    private static void elevenFirst() {
        EDGE.terms(ORDER, "Of one statement 11 comes first");
        String full = "fun f(a,a){}fun g(){}fun m(){" + numbers(12) + arrays(6) + EMPTY.repeat(231) + "@";
        for (String statement : new String[] {"x=1;", "var n0;", "n0=t0;", "h();", "g(1);", "n0=g();", "return 1;", "n0=any(2,1);",
            "var u[0];", "var x;", "var u[1];", "f(1,2);", "if(x<1){}", "while(x<1){}", "assert(x<1);"}) {
            EDGE.mistaken(11, full + statement + "}");
        }
    }

    private static void fromTheLeft() {
        EDGE.terms(ORDER, "then what stands in it, from the left to the right");
        EDGE.mistaken(1, "fun m(){@x=y;}");
        EDGE.mistaken(1, "fun m(){var x=@y+z;}");
        EDGE.mistaken(1, "fun m(){var x=@y+any(2,1);}");
        EDGE.mistaken(8, "fun m(){var x=any(@2,1)+y;}");
        EDGE.mistaken(3, "fun m(){var t[2];var x=@t+y;}");
        EDGE.mistaken(1, "fun m(){var t[2];var x=@y+t;}");
        EDGE.mistaken(1, "fun m(){@t[i]=j;}");
        EDGE.mistaken(1, "fun m(){var t[2];t[@i]=j;}");
        EDGE.mistaken(1, "fun m(){var x=@t[i];}");
        EDGE.mistaken(2, "fun m(){var x;var @x=y;}");
        EDGE.mistaken(2, "fun m(){var x;var @x[0];}");
        EDGE.mistaken(1, "fun m(){if(@x<y){}}");
        EDGE.mistaken(8, "fun m(){if(1<any(@2,1)||x<1){}}");
        EDGE.mistaken(1, "fun f(a,b){}fun m(){f(@x,y);}");
        EDGE.mistaken(8, "fun f(a,b){}fun m(){f(any(@2,1),y);}");
    }

    private static void callsInThisOrder() {
        EDGE.terms(ORDER, "with 4, 5, 6 in this order");
        EDGE.mistaken(1, "fun m(){@x=f(y);}");
        EDGE.mistaken(3, "fun m(){var t[1];@t=f(y);}");
        EDGE.mistaken(4, "fun m(){var x;x=@f(y);}");
        EDGE.mistaken(5, "fun f(){}fun m(){var x;x=@f(y);}");
        EDGE.mistaken(5, "fun f(){}fun m(){@f(y);}");
        EDGE.mistaken(5, "fun f(a,a){}fun m(){@f(y);}");
        EDGE.mistaken(6, "fun f(a){}fun m(){var x;x=@f(y);}");
        EDGE.mistaken(6, "fun f(a,a){}fun m(){var x;x=@f(1,2);}");
        EDGE.mistaken(1, "fun f(a){}fun m(){f(@y);}");
        EDGE.mistaken(1, "fun f(){}fun m(){@x=f(1);}");
        EDGE.mistaken(1, "fun f(){}fun m(){@x=f();}");
    }

    private static void returnsBeforeTheirSums() {
        EDGE.terms(ORDER, "(a return's 6 and 7 before its SUM)");
        EDGE.mistaken(6, "fun m(){@return x;var y;}");
        EDGE.mistaken(6, "fun f(){if(1<2){@return any(2,1);}}fun m(){f();}");
        EDGE.mistaken(7, "fun m(){@return x;}");
        EDGE.mistaken(7, "fun m(){@return any(2,1);}");
        EDGE.mistaken(1, "fun f(){return @x;}fun m(){f();}");
    }

    private static void parametersThenLimits() {
        EDGE.terms(ORDER, "then, for a call, 2 for the function's parameters; then 10, 13.");
        EDGE.mistaken(1, "fun f(a,a){}fun m(){f(1,@x);}");
        EDGE.mistaken(8, "fun f(a,a){}fun m(){f(1,any(@2,1));}");
        EDGE.mistaken(2, "fun f(a,@a){}fun m(){" + numbers(12) + "f(1,2);}");
        EDGE.mistaken(2, "fun f(a,@a){x=1;}fun m(){f(1,2);}");
        EDGE.mistaken(1, "fun f(a){}fun m(){" + numbers(12) + "f(@x);}");
        EDGE.mistaken(10, "fun f(a){x=1;}fun m(){" + numbers(12) + "@f(1);}");
        EDGE.mistaken(1, "fun m(){" + numbers(12) + "var x=@y;}");
        EDGE.mistaken(8, "fun m(){" + numbers(12) + "var x=any(@2,1);}");
        EDGE.mistaken(2, "fun m(){" + numbers(12) + "var @n0;}");
        EDGE.mistaken(9, "fun m(){" + arrays(6) + "var u[@0];}");
        EDGE.mistaken(9, "fun m(){" + arrays(6) + "var u[@65];}");
        EDGE.mistaken(2, "fun m(){" + arrays(6) + "var @t0[1];}");
    }

    private static void orderOfPoints() {
        EDGE.terms(WRONG, "WHAT IS WRONG with a program is the first of these, in the order of the points that are told below");
        EDGE.mistaken(1, "fun f(){y=1;}fun m(){@x=1;f();}");
        EDGE.mistaken(1, "fun f(){@y=1;}fun m(){f();x=1;}");
        EDGE.mistaken(9, "fun f(){var t[@0];}fun m(){if(1<2){f();}x=1;}");
        EDGE.mistaken(1, "fun m(){if(@x<1){y=1;}}");
        EDGE.mistaken(1, "fun m(){if(1<2){@x=1;}else{y=1;}z=1;}");
        EDGE.mistaken(1, "fun m(){while(1<2){@x=1;}y=1;}");
        EDGE.mistaken(7, "fun f(){}fun m(){f();@return 1;}");
        EDGE.mistaken(1, "fun m(){@x=1;return 1;}");
        EDGE.mistaken(1, "fun m(){@x=1;" + EMPTY.repeat(260) + "}");
    }
}
