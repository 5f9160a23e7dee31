/** Promises 1 to 4: a new object, feed, end and told, with what is read, faulty and wrong. */
public final class TextTest {
    private static final Trial TRIAL = new Trial("TextTest");

    public static void main(String[] args) {
        newObject();
        feeding();
        ending();
        tokens();
        faults();
        depths();
        mistakes();
        orderOfMistakes();
        limits();
        meanings();
        TRIAL.finish();
    }

    private static void newObject() {
        TRIAL.fresh();
        InvariantDesk desk = TRIAL.desk;
        TRIAL.due("NONE", InvariantDesk.NONE, -1);
        TRIAL.due("points()", desk.points(), 1);
        for (int what = 0; what < 5; what++) {
            TRIAL.due("point(0, " + what + ")", desk.point(0, what), 0);
        }
        TRIAL.due("point(0, 5)", desk.point(0, 5), 1);
        TRIAL.due("point(0, 6)", desk.point(0, 6), 1);
        TRIAL.due("drop()", desk.drop(), 0);
        TRIAL.due("unclaim()", desk.unclaim(), 0);
        TRIAL.due("inductive()", desk.inductive(), -1);
        TRIAL.due("run(0)", desk.run(0), 0);
        TRIAL.due("outside()", desk.outside(), 0);
        TRIAL.due("shown(0)", desk.shown(0), -1);
        for (int what = -1; what <= 3; what++) {
            TRIAL.due("told(" + what + ") before an end()", desk.told(what), -1);
        }
        TRIAL.known(0, "all");
    }

    private static void feeding() {
        TRIAL.fresh();
        InvariantDesk desk = TRIAL.desk;
        for (int k = 1; k <= 820; k++) {
            TRIAL.due("feed() " + k, desk.feed(0x20202020, 0x20202020, 0x20202020, 0x20202020, 0x20202020), 20 * k);
        }
        TRIAL.due("feed() 821", desk.feed(0, 0, 0, 0, 0), -1);
        TRIAL.due("end(16400)", desk.end(16400), 1);
        TRIAL.due("told(1)", desk.told(1), 16400);
        TRIAL.due("feed() behind end()", desk.feed(0x66756E20, 0x6D28297B, 0x7D807FFF, 0, 0), 20);
        TRIAL.due("end(9)", desk.end(9), 0);
        desk.feed(0x66756E20, 0x6D28297B, 0x7DFFFFFF, 0, 0);
        TRIAL.due("end(10)", desk.end(10), 1);
        TRIAL.due("told(1)", desk.told(1), 9);
    }

    private static void ending() {
        TRIAL.program("fun m(){var x;}");
        InvariantDesk desk = TRIAL.desk;
        desk.input(5);
        desk.claimNothing(1);
        desk.run(1);
        desk.feed(0x66756E20, 0x6D28297B, 0x7D202020, 0, 0);
        TRIAL.due("end(-1)", desk.end(-1), -1);
        TRIAL.due("end(21)", desk.end(21), -1);
        TRIAL.due("points() behind NONE", desk.points(), 2);
        TRIAL.due("point(1, 6) behind NONE", desk.point(1, 6), 0);
        TRIAL.due("ran(1) behind NONE", desk.ran(1), 1);
        TRIAL.due("told(2) behind NONE", desk.told(2), 1);
        TRIAL.due("end(12)", desk.end(12), 0);
        TRIAL.due("points()", desk.points(), 1);
        TRIAL.due("ran(1)", desk.ran(1), 0);
        TRIAL.due("told(2)", desk.told(2), 0);
        TRIAL.due("end(1)", desk.end(1), -1);
        TRIAL.load("fun m(){var x;x=1;}");
        TRIAL.due("end(0)", desk.end(0), 1);
        TRIAL.due("points() behind a fault", desk.points(), 1);
        TRIAL.due("told(0)", desk.told(0), 0);
        TRIAL.due("told(1)", desk.told(1), 0);
        TRIAL.due("told(2)", desk.told(2), 0);
        TRIAL.due("told(-1)", desk.told(-1), -1);
        TRIAL.due("told(3)", desk.told(3), -1);
        TRIAL.due("drop(), inputs having stayed", desk.drop(), 1);
        TRIAL.due("end of a wrong one", TRIAL.load("fun m(){var x;y=1;}"), 2);
        TRIAL.due("told(0)", desk.told(0), 1);
        TRIAL.due("told(1)", desk.told(1), 14);
        TRIAL.due("told(2)", desk.told(2), 0);
        TRIAL.due("points()", desk.points(), 1);
        TRIAL.due("point(0, 5)", desk.point(0, 5), 1);
        TRIAL.due("end of one that is too much", TRIAL.load("fun m(){" + whiles(6) + "}"), 3);
        TRIAL.due("told(0)", desk.told(0), 0);
        TRIAL.due("told(1)", desk.told(1), 0);
        TRIAL.due("told(2)", desk.told(2), 0);
        TRIAL.due("points()", desk.points(), 19);
        work("fun m(){" + whiles(1) + "}", 13);
        work("fun m(){" + whiles(5) + "}", 2153);
        String most = "if(1<2){" + whiles(5) + "}" + times("if(1<2){" + whiles(4) + "}", 3);
        work("fun m(){" + most + times("if(1<2){}", 25) + "}", 4000);
        TRIAL.fresh();
        TRIAL.due("end with work 4001", TRIAL.load("fun m(){" + most + times("if(1<2){}", 26) + "}"), 3);
    }

    private static void work(String text, int work) {
        TRIAL.program(text);
        TRIAL.due("told(2) of " + text, TRIAL.desk.told(2), work);
    }

    /** Whiles within one another, each with a number of its own. */
    private static String whiles(int count) {
        StringBuilder text = new StringBuilder();
        for (int k = 0; k < count; k++) {
            text.append("var a").append(k).append("=0;");
        }
        for (int k = 0; k < count; k++) {
            text.append("while(a").append(k).append("<10){");
        }
        for (int k = count - 1; k >= 0; k--) {
            text.append("a").append(k).append("=a").append(k).append("+1;}");
        }
        return text.toString();
    }

    private static void right(String text) {
        TRIAL.fresh();
        TRIAL.due("end of " + text, TRIAL.load(text), 0);
        TRIAL.due("told(0) of " + text, TRIAL.desk.told(0), 0);
        TRIAL.due("told(1) of " + text, TRIAL.desk.told(1), 0);
    }

    private static void faulty(String text, int place) {
        TRIAL.fresh();
        TRIAL.due("end of " + text, TRIAL.load(text), 1);
        TRIAL.due("told(0) of " + text, TRIAL.desk.told(0), 0);
        TRIAL.due("told(1) of " + text, TRIAL.desk.told(1), place);
        TRIAL.due("told(2) of " + text, TRIAL.desk.told(2), 0);
        TRIAL.due("points() of " + text, TRIAL.desk.points(), 1);
    }

    /** The place of the mistake is where the mark stands, which is no part of the text. */
    private static void mistaken(int what, String marked) {
        int place = marked.indexOf('@');
        String text = marked.substring(0, place) + marked.substring(place + 1);
        TRIAL.fresh();
        TRIAL.due("end of " + text, TRIAL.load(text), 2);
        TRIAL.due("told(0) of " + text, TRIAL.desk.told(0), what);
        TRIAL.due("told(1) of " + text, TRIAL.desk.told(1), place);
        TRIAL.due("told(2) of " + text, TRIAL.desk.told(2), 0);
        TRIAL.due("points() of " + text, TRIAL.desk.points(), 1);
    }

    /** The fault lies where the mark stands, which is no part of the text. */
    private static void fault(String marked) {
        int place = marked.indexOf('@');
        faulty(marked.substring(0, place) + marked.substring(place + 1), place);
    }

    private static void tokens() {
        String thirty = "abcdefghijklmnopqrstuvwxyz_019";
        right("fun\tm\r(\n) { } // remark");
        right("fun m(){}//");
        right("// fun\nfun m(){//}\n}");
        right("fun m(){var x=7//3;\n;}");
        right("fun m(){var " + thirty + "=2147483647;" + thirty + "=0;}");
        right("fun A_9(){var _=1;var __=2;_=__;var ifs;var fun_;var Any;ifs=fun_+Any;}");
        fault("fun m(){var @" + thirty + "a;}");
        fault("fun m(){var x=@2147483648;}");
        fault("fun m(){var x=@99999999999999999999;}");
        fault("fun m(){var x=@00;}");
        fault("fun m(){var x=@07;}");
        fault("fun m(){var x=@1a;}");
        fault("fun m(){var x=@0_;}");
        fault("fun m(){if(1<2@&3<4){}}");
        fault("fun m(){if(1<2@|3<4){}}");
        fault("fun m(){@$}");
        fault("fun m(){var@\u000Bx;}");
        fault("fun m(){var x@\u0000;}");
        fault("fun m(){var @\u00E9;}");
        fault("fun m(){if(1@=<2){}}");
        fault("fun m(){if(1@! =2){}}");
        right("fun m(){if(1!=2){}}");
    }

    private static void faults() {
        fault("@");
        faulty("  //\n ", 6);
        fault("fun m(){} @x");
        fault("fun m(){}@}");
        faulty("fun m(){  // ", 13);
        faulty("fun", 3);
        faulty("                              fun m", 35);
        faulty("                              fun m(){x=12", 42);
        fault("@var x;");
        fault("fun @fun(){}");
        fault("fun m@{}");
        fault("fun m(@,a){}");
        fault("fun m(a,@){}");
        fault("fun m(a @b){}");
        fault("fun m(@1){}");
        fault("fun m()@;");
        fault("fun m(){@;}");
        fault("fun m(){@{}}");
        fault("fun m(){@else{}}");
        fault("fun m(){@1=2;}");
        fault("fun m(){x@;}");
        fault("fun m(){x@+1;}");
        fault("fun m(){x@==1;}");
        fault("fun m(){x=@;}");
        fault("fun m(){x=1@}");
        fault("fun m(){x=@+1;}");
        fault("fun m(){x=1+@;}");
        fault("fun m(){x=(1@;}");
        fault("fun m(){x=y[1@;}");
        fault("fun m(){x[1]@;}");
        fault("fun m(){x[@]=1;}");
        fault("fun m(){var @1;}");
        fault("fun m(){var x @1;}");
        fault("fun m(){var x @y=1;}");
        fault("fun m(){var x@}");
        fault("fun m(){var x[@y];}");
        fault("fun m(){var x[@-1];}");
        fault("fun m(){var x[3]@=1;}");
        fault("fun m(){if @1<2{}}");
        fault("fun m(){if(x@){}}");
        fault("fun m(){if((x@<1)){}}");
        fault("fun m(){if(x @1){}}");
        fault("fun m(){if(x @y<1){}}");
        fault("fun m(){if([x<1@){}}");
        fault("fun m(){if(x<1@<2){}}");
        fault("fun m(){if(1<2)@x=1;}");
        fault("fun m(){if(1<2){}else @if(1<2){}}");
        fault("fun m(){if(1<2){}else{}@else{}}");
        fault("fun m(){assert(@);}");
        fault("fun m(){assert(1<2)@}");
        fault("fun m(){return@;}");
        fault("fun m(){f(1,@);}");
        fault("fun m(){f(@,1);}");
        fault("fun m(){x=f()@+1;}");
        fault("fun m(){x=1+f@();}");
        fault("fun m(){var x=f@();}");
        fault("fun m(){a[0]=f@();}");
        fault("fun m(){x=-f@(1);}");
        fault("fun m(){x=any(@);}");
        fault("fun m(){x=any(1@;}");
        fault("fun m(){x=any(1@);}");
        fault("fun m(){x=any(1,@);}");
        fault("fun m(){x=any(@y,1);}");
        fault("fun m(){x=any(-@-1,1);}");
        fault("fun m(){x=any(1,2@+1);}");
        fault("fun m(){x=any2 @3;}");
    }

    private static String times(String text, int count) {
        return text.repeat(count);
    }

    private static void depths() {
        right("fun m(){var y;var x=" + times("-", 58) + "y;}");
        fault("fun m(){var y;var x=" + times("-", 59) + "@y;}");
        fault("fun m(){var y;var x=" + times("-", 59) + "@+;}");
        right("fun m(){var x=" + times("(", 58) + "1" + times(")", 58) + ";}");
        fault("fun m(){var x=" + times("(", 59) + "@1" + times(")", 59) + ";}");
        right("fun m(){var x=" + times("-(", 29) + "1" + times(")", 29) + ";}");
        fault("fun m(){var x=" + times("-(", 29) + "-@1" + times(")", 29) + ";}");
        right("fun m(){var a[9];var x=" + times("a[", 58) + "1" + times("]", 58) + ";}");
        fault("fun m(){var a[9];var x=" + times("a[", 59) + "@1" + times("]", 59) + ";}");
        right("fun m(){var x=any(-1,-1)+" + times("(", 58) + "any(-1,-1)" + times(")", 58) + ";}");
        right("fun m(){assert(" + times("[", 57) + "1<2" + times("]", 57) + ");}");
        fault("fun m(){assert(" + times("[", 58) + "@1<2" + times("]", 58) + ");}");
        right("fun m(){assert(" + times("!", 57) + "1<2);}");
        fault("fun m(){assert(" + times("!", 58) + "@1<2);}");
        fault("fun m(){assert(" + times("!", 59) + "@[1<2]);}");
        right("fun m(){assert(" + times("!", 56) + "1<(2));}");
        fault("fun m(){assert(" + times("!", 57) + "1<(@2));}");
        // the SUMs of a COND are one deeper than it, so no BLOCK of an if or while comes to be 60 deep
        String deep = "fun f(){return 1;}fun g(a){return a;}fun m(){var x;var y;var a[1];" + times("if(x<1){", 58);
        String shut = times("}", 59);
        right(deep + "x=f();f();x=g(x);g(1);x=y;var z=x;var b[3];a[0]=1;" + shut);
        fault(deep + "x=-@1;" + shut);
        fault(deep + "x=(@y);" + shut);
        fault(deep + "x=a[@y];" + shut);
        fault(deep + "x=-@y$;" + shut);
        fault(deep + "x=g(-@x);" + shut);
        fault(deep + "g((@x));" + shut);
        fault(deep + "var z=(@x);" + shut);
        fault(deep + "a[-@0]=1;" + shut);
        fault(deep + "a[0]=-@1;" + shut);
        fault(deep + "if(@x<1){}" + shut);
        fault(deep + "while(!@x<1){}" + shut);
        fault(deep + "assert([@x<1]);" + shut);
        fault(deep + "return -@x;" + shut);
        faulty(deep + "return -  ", deep.length() + 10);
        right("fun m(){" + times("if(1<2){", 58) + shut);
        fault("fun m(){" + times("while(2<1){}if(1<2){", 58) + "while(@2<1){}" + shut);
        fault("fun m(){" + times("if(1<2){", 57) + "if(2<1){}else{var x=-@1;}" + times("}", 58));
        right("fun m(){var x=" + times("-1+", 90) + "-(1);}");
        right("fun m(){assert(" + times("!1<2&&[1<2]||", 90) + "1<2);}");
        right("fun m(){" + times("if(1<2){}else{}while(2<1){}", 90 / 3) + "}");
        right("fun m(){var x=(((1)))" + times("*(1)-(2)", 100) + ";}");
    }

    private static void mistakes() {
        mistaken(1, "fun m(){@x=1;}");
        mistaken(1, "fun m(){var x=@x;}");
        mistaken(1, "fun m(){if(1<2){var x;}@x=1;}");
        mistaken(1, "fun f(a){a=@x;}fun m(){var x;f(x);}");
        mistaken(1, "fun m(){@a[0]=1;}");
        mistaken(1, "fun m(){var x=@a[0];}");
        mistaken(1, "fun f(){return 1;}fun m(){@x=f();}");
        mistaken(2, "fun m(){var x;var @x;}");
        mistaken(2, "fun m(){var x;var @x[3];}");
        mistaken(2, "fun m(){var x[3];var @x;}");
        mistaken(2, "fun f(a){var @a;}fun m(){f(1);}");
        mistaken(2, "fun f(a,b,@a){}fun m(){f(1,2,3);}");
        right("fun f(a){if(a<1){var a=a;a=a+1;}}fun m(){f(1);}");
        right("fun m(){var x;if(x<1){var x=x;var y;}else{var y;}while(x<1){var y;x=1;}var y;}");
        mistaken(3, "fun m(){var a[3];@a=1;}");
        mistaken(3, "fun m(){var a;@a[0]=1;}");
        mistaken(3, "fun m(){var a[3];var x=1+@a;}");
        mistaken(3, "fun m(){var a;var x=@a[0];}");
        mistaken(3, "fun f(){return 1;}fun m(){var a[3];@a=f();}");
        mistaken(4, "fun m(){@f();}");
        mistaken(4, "fun m(){@m();}");
        mistaken(4, "fun m(){var f;@f();}");
        mistaken(4, "fun f(){@g();}fun g(){}fun m(){f();}");
        mistaken(5, "fun f(a){}fun m(){@f();}");
        mistaken(5, "fun f(){}fun m(){@f(1);}");
        mistaken(5, "fun f(a,b){return 1;}fun m(){var x;x=@f(1);}");
        mistaken(6, "fun f(){}fun m(){var x;x=@f();}");
        mistaken(6, "fun f(){if(1<2){return 1;}}fun m(){var x;x=@f();}");
        mistaken(6, "fun f(){if(1<2){@return 1;}}fun m(){f();}");
        mistaken(6, "fun f(){@return 1;return 2;}fun m(){f();}");
        mistaken(6, "fun m(){@return 1;var x;}");
        mistaken(6, "fun m(){while(1<2){@return 1;}}");
        mistaken(7, "fun @m(a){}");
        mistaken(7, "fun m(){var x;@return x;}");
        mistaken(8, "fun m(){var x=any(@2,1);}");
        mistaken(8, "fun m(){var x=any(@-1,-2);}");
        right("fun m(){var x=any(-2,-2);}");
        mistaken(9, "fun m(){var a[@0];}");
        mistaken(9, "fun m(){var a[@65];}");
        mistaken(9, "fun m(){var a[@2147483647];}");
        right("fun m(){var a[1];var b[64];}");
    }

    private static void orderOfMistakes() {
        mistaken(7, "fun @m(a,a){x=1;}");
        mistaken(7, "fun m(){@return x;}");
        mistaken(6, "fun m(){@return x;x=1;}");
        mistaken(1, "fun f(a){}fun m(){@y=f(y,2);}");
        mistaken(4, "fun f(a){}fun m(){var x;x=@g(y,2);}");
        mistaken(5, "fun f(a){}fun m(){var x;x=@f(y,2);}");
        mistaken(6, "fun f(a){}fun m(){var x;x=@f(y);}");
        mistaken(1, "fun f(a,a){}fun m(){f(1,@x);}");
        mistaken(5, "fun f(a,a){}fun m(){@f(1);}");
        mistaken(1, "fun f(a){return @y;}fun m(){var x;x=f(x);z=1;}");
        mistaken(2, "fun m(){var x;var @x=y;}");
        mistaken(2, "fun m(){var x;var @x[0];}");
        mistaken(8, "fun m(){var x=any(@5,-5)+y;}");
        mistaken(1, "fun m(){var x=@y+any(5,-5);}");
        mistaken(1, "fun m(){var a[3];a[@i]=j;}");
        mistaken(1, "fun m(){if(1<2&&@x<y){z=1;}}");
        mistaken(1, "fun m(){if(1<2){@z=1;}else{y=1;}}");
        mistaken(3, "fun m(){var a[3];while(@a<x){}}");
        mistaken(1, "fun f(){@q=1;}fun m(){f();f();}");
        right("fun u(a,a){x=1;return 3;y();var b[0];}fun m(){}");
    }

    private static String numbers(String before, int count) {
        StringBuilder text = new StringBuilder();
        for (int k = 0; k < count; k++) {
            text.append("var ").append(before).append(k).append(";");
        }
        return text.toString();
    }

    private static String arrays(int count) {
        StringBuilder text = new StringBuilder();
        for (int k = 0; k < count; k++) {
            text.append("var a").append(k).append("[2];");
        }
        return text.toString();
    }

    private static void limits() {
        right("fun m(){" + numbers("v", 12) + "}");
        mistaken(10, "fun m(){" + numbers("v", 12) + "@var x;}");
        mistaken(1, "fun m(){" + numbers("v", 12) + "var x=@y;}");
        right("fun m(){if(1<2){" + numbers("v", 12) + "}else{" + numbers("w", 12) + "}" + numbers("x", 12) + "}");
        right("fun f(a,b){}fun m(){" + numbers("v", 10) + "f(1,2);}");
        mistaken(10, "fun f(a,b){}fun m(){" + numbers("v", 11) + "@f(1,2);}");
        mistaken(10, "fun f(a,b){return 1;}fun m(){" + numbers("v", 11) + "@v0=f(1,2);}");
        mistaken(2, "fun f(a,@a){}fun m(){" + numbers("v", 11) + "f(1,2);}");
        mistaken(10, "fun f(a){@var b;}fun m(){" + numbers("v", 11) + "f(1);}");
        right("fun f(){}fun m(){" + numbers("v", 12) + "f();}");
        right("fun m(){" + arrays(6) + "}");
        mistaken(13, "fun m(){" + arrays(6) + "@var b[1];}");
        mistaken(9, "fun m(){" + arrays(6) + "var b[@0];}");
        mistaken(13, "fun f(){@var b[1];}fun m(){" + arrays(6) + "f();}");
        right("fun m(){var x;" + times("x=0;", 248) + "}");
        TRIAL.due("points() of 249 statements", TRIAL.desk.points(), 250);
        mistaken(11, "fun m(){var x;" + times("x=0;", 248) + "@y=0;}");
        String doubled = "fun a(){}fun b(){a();a();}fun c(){b();b();}fun d(){c();c();}fun e(){d();d();}fun f(){e();e();}";
        right(doubled + "fun g(){f();f();}");
        mistaken(11, doubled.replace("a(){}", "a(){var x;}").replace("fun b(){a();a();", "fun b(){a();@a();") + "fun g(){f();f();f();}");
        StringBuilder chain = new StringBuilder("fun f0(){}");
        for (int k = 1; k <= 249; k++) {
            chain.append("fun f").append(k).append("(){f").append(k - 1).append("();}");
        }
        right(chain.toString());
        TRIAL.due("points() of a chain of calls", TRIAL.desk.points(), 250);
    }

    private static void meanings() {
        right("fun f(){}fun f(a){f();}fun m(){f(1);}");
        TRIAL.due("points()", TRIAL.desk.points(), 3);
        mistaken(5, "fun f(){}fun f(a){f();}fun m(){@f();}");
        right("fun f(){}fun m(){var f;f();f=1;}");
        TRIAL.program("fun m(){var x=1;if(x==1){var x=x+1;x=x+1;var y=x;}var z=x;}");
        TRIAL.known(4, "x in 1..1, x in 3..3");
        TRIAL.known(5, "x in 1..1");
        TRIAL.known(3, "x in 1..1, x in 2..2");
    }
}
