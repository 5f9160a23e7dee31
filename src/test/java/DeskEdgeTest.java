import java.lang.reflect.Constructor;
import java.lang.reflect.Field;
import java.lang.reflect.Method;
import java.lang.reflect.Modifier;
import java.util.Arrays;
import java.util.Set;
import java.util.TreeSet;

/** 'What it is', 'The public face' and promises 1 to 6, at their edges. */
public final class DeskEdgeTest {
    private static final Edge EDGE = new Edge("DeskEdgeTest");
    private static final int BLANKS = 0x20202020;
    private static final int[] FAR = {Integer.MIN_VALUE, Integer.MIN_VALUE + 1, Integer.MAX_VALUE};

    public static void main(String[] args) {
        callsOfOneObject();
        face();
        newObject();
        newObjectRefuses();
        orderOfBytes();
        fullOfBytes();
        firstBytes();
        refusedEnds();
        textWithoutBytes();
        answersOfEnd();
        onlyTheEnd();
        whatStaysAndWhatGoes();
        nothingOfTheProgramBefore();
        told();
        toldByTheLatestEnd();
        points();
        pointNumbers();
        pointWhats();
        statementsOfPoints();
        EDGE.finish();
    }

    private static void callsOfOneObject() {
        EDGE.front("What it is", "An object is used for at most 512 calls after it has been made");
        EDGE.fresh();
        for (int k = 1; k <= 512; k++) {
            EDGE.due("call " + k + ", feed()", EDGE.desk.feed(0, 0, 0, 0, 0), 20 * k);
        }
        EDGE.fresh();
        EDGE.desk.load("fun m(){var x;while(any!=0){x=x+1;}assert(x==507);}");
        for (int k = 1; k <= 507; k++) {
            EDGE.due("input() " + k, EDGE.desk.input(k), k);
        }
        EDGE.due("run(2000) as call " + (EDGE.desk.calls() + 1), EDGE.desk.run(2000), 0);
        EDGE.due("calls", EDGE.desk.calls(), 512);
    }

    private static void face() {
        EDGE.front("The public face", "public final class InvariantDesk {");
        Class<InvariantDesk> face = InvariantDesk.class;
        EDGE.due("modifiers of the class", Modifier.toString(face.getModifiers()), "public final");
        EDGE.due("package of the class", face.getPackageName(), "");
        EDGE.front("The public face", "public static final int NONE = -1;");
        EDGE.due("NONE", InvariantDesk.NONE, -1);
        Set<String> members = new TreeSet<>();
        for (Field field : face.getDeclaredFields()) {
            if (!Modifier.isPrivate(field.getModifiers())) {
                members.add(field.toString());
            }
        }
        EDGE.due("fields", members.toString(), "[public static final int InvariantDesk.NONE]");
        members.clear();
        EDGE.front("The public face", "public InvariantDesk();");
        for (Constructor<?> constructor : face.getDeclaredConstructors()) {
            members.add(constructor.toString());
        }
        EDGE.due("constructors", members.toString(), "[public InvariantDesk()]");
        String[] methods = {
            "int feed(int a, int b, int c, int d, int e)", "int end(int n)", "int told(int what)", "int points()",
            "int point(int p, int what)", "long bound(boolean claims, int p, int x, int s, int y, int t)",
            "long range(boolean claims, int p, int a, boolean greatest)", "int claim(int p, int x, int s, int y, int t, long c)",
            "int claimRange(int p, int a, boolean above, int c)", "int claimNothing(int p)", "int unclaim()", "int inductive()",
            "int input(int x)", "int drop()", "int run(int steps)", "int ran(int what)", "int value(int x)",
            "int place(int a, int i)", "int outside()", "int show(boolean claims, int p)", "int shown(int i)"};
        Set<String> due = new TreeSet<>();
        for (String method : methods) {
            EDGE.front("The public face", "public " + method + ";");
            due.add(method.replaceAll(" [a-z]+([,)])", "$1").replaceAll(", ", ","));
        }
        members.clear();
        for (Method method : face.getDeclaredMethods()) {
            if (!Modifier.isPrivate(method.getModifiers()) && !method.isSynthetic()) {
                String types = Arrays.toString(method.getParameterTypes()).replaceAll("[\\[\\] ]", "");
                members.add(method.getReturnType() + " " + method.getName() + "(" + types + ")");
                EDGE.due("modifiers of " + method.getName(), Modifier.toString(method.getModifiers()), "public");
            }
        }
        EDGE.due("methods", members.toString(), due.toString());
    }

    private static void newObject() {
        EDGE.promise(1, "No text: a program that has only the end; no inputs; claims as analysed.");
        EDGE.fresh();
        EDGE.due("points()", EDGE.desk.points(), 1);
        int[] only = {0, 0, 0, 0, 0, 1, 1};
        for (int what = 0; what < only.length; what++) {
            EDGE.due("point(0, " + what + ")", EDGE.desk.point(0, what), only[what]);
        }
        EDGE.known(0, "all");
        EDGE.claimed(0, "all");
        EDGE.due("inductive()", EDGE.desk.inductive(), -1);
        EDGE.due("unclaim()", EDGE.desk.unclaim(), 0);
        EDGE.due("drop()", EDGE.desk.drop(), 0);
        EDGE.due("run(0)", EDGE.desk.run(0), 0);
        EDGE.due("run(2000)", EDGE.desk.run(2000), 0);
        EDGE.due("outside()", EDGE.desk.outside(), 0);
        EDGE.due("claimNothing(0)", EDGE.desk.claimNothing(0), 1);
        EDGE.due("claimNothing(0) again", EDGE.desk.claimNothing(0), 0);
        EDGE.due("unclaim()", EDGE.desk.unclaim(), 1);
        EDGE.due("input(5)", EDGE.desk.input(5), 1);
        EDGE.due("feed()", EDGE.desk.feed(0, 0, 0, 0, 0), 20);
    }

    private static void newObjectRefuses() {
        EDGE.promise(1, "No text: a program that has only the end; no inputs; claims as analysed.");
        EDGE.fresh();
        EDGE.due("shown(0)", EDGE.desk.shown(0), -1);
        EDGE.due("end(1) without bytes", EDGE.desk.end(1), -1);
        EDGE.due("end(-1) without bytes", EDGE.desk.end(-1), -1);
        EDGE.due("point(1, 0)", EDGE.desk.point(1, 0), -1);
        EDGE.due("bound(false, 0, 0, 1, 0, 1)", EDGE.desk.bound(false, 0, 0, 1, 0, 1), -(1L << 40));
        EDGE.due("range(false, 0, 0, true)", EDGE.desk.range(false, 0, 0, true), -(1L << 40));
        EDGE.due("claim(0, 0, 1, 0, 1, 5)", EDGE.desk.claim(0, 0, 1, 0, 1, 5), -1);
        EDGE.due("claimRange(0, 0, true, 5)", EDGE.desk.claimRange(0, 0, true, 5), -1);
        EDGE.due("claimNothing(1)", EDGE.desk.claimNothing(1), -1);
        EDGE.due("show(false, 1)", EDGE.desk.show(false, 1), -1);
        EDGE.due("value(0)", EDGE.desk.value(0), 0);
        EDGE.due("place(0, 0)", EDGE.desk.place(0, 0), 0);
        for (int what = 0; what < 3; what++) {
            EDGE.due("ran(" + what + ")", EDGE.desk.ran(what), 0);
        }
        EDGE.due("end(0) without bytes", EDGE.desk.end(0), 1);
    }

    /** A byte that is no token lies where the fault is told. */
    private static void orderOfBytes() {
        EDGE.promise(2, "Twenty bytes more, the highest byte of a first: how many there are.");
        for (int bad : new int[] {'$', 0, 127, 128, 255}) {
            for (int i = 0; i < 20; i++) {
                EDGE.fresh();
                int[] words = {BLANKS, BLANKS, BLANKS, BLANKS, BLANKS};
                int shift = 24 - 8 * (i % 4);
                words[i / 4] = words[i / 4] & ~(255 << shift) | bad << shift;
                EDGE.due("feed()", EDGE.desk.feed(BLANKS, BLANKS, BLANKS, BLANKS, BLANKS), 20);
                EDGE.due("feed()", EDGE.desk.feed(words[0], words[1], words[2], words[3], words[4]), 40);
                EDGE.due("end(40)", EDGE.desk.end(40), 1);
                EDGE.due("told(1), byte " + i + " being " + bad, EDGE.desk.told(1), 20 + i);
            }
        }
    }

    private static void fullOfBytes() {
        EDGE.promise(2, "NONE, changing nothing, when there would be more than 16400.");
        EDGE.freshForManyCalls();
        for (int k = 1; k <= 819; k++) {
            EDGE.due("feed() " + k, EDGE.desk.feed(BLANKS, BLANKS, BLANKS, BLANKS, BLANKS), 20 * k);
        }
        // "fun m(){var xy=12 ;}"
        EDGE.due("feed() 820", EDGE.desk.feed(0x66756E20, 0x6D28297B, 0x76617220, 0x78793D31, 0x32203B7D), 16400);
        EDGE.due("feed() 821", EDGE.desk.feed(-1, -1, -1, -1, -1), -1);
        EDGE.due("feed() 822", EDGE.desk.feed(BLANKS, BLANKS, BLANKS, BLANKS, BLANKS), -1);
        EDGE.due("end(16401)", EDGE.desk.end(16401), -1);
        EDGE.due("end(16400)", EDGE.desk.end(16400), 0);
        EDGE.due("points()", EDGE.desk.points(), 2);
        EDGE.due("point(0, 1)", EDGE.desk.point(0, 1), 16388);
        EDGE.due("feed() behind end()", EDGE.desk.feed(-1, -1, -1, -1, -1), 20);
        EDGE.refusedWhenFull("feed() of a full desk", desk -> desk.feed(-1, -1, -1, -1, -1), desk -> {
            for (int k = 2; k <= 820; k++) {
                EDGE.due("feed() " + k, desk.feed(0, 0, 0, 0, 0), 20 * k);
            }
        });
        EDGE.freshForManyCalls();
        for (int k = 1; k <= 820; k++) {
            EDGE.due("feed() " + k, EDGE.desk.feed(BLANKS, BLANKS, BLANKS, BLANKS, k < 820 ? BLANKS : 0x20202024), 20 * k);
        }
        EDGE.due("end(16400)", EDGE.desk.end(16400), 1);
        EDGE.due("told(1)", EDGE.desk.told(1), 16399);
        EDGE.fresh();
        for (int k = 1; k <= 510; k++) {
            EDGE.due("feed() " + k, EDGE.desk.feed(BLANKS, BLANKS, BLANKS, BLANKS, BLANKS), 20 * k);
        }
        EDGE.due("end(10200)", EDGE.desk.end(10200), 1);
        EDGE.due("told(1)", EDGE.desk.told(1), 10200);
    }

    private static void firstBytes() {
        EDGE.promise(3, "The first n bytes are a text, all bytes are gone");
        String text = "fun m(){}";
        for (int n = 0; n <= text.length() + 1; n++) {
            EDGE.fresh();
            EDGE.desk.feed(text);
            EDGE.due("end(" + n + ") of " + text + "}", EDGE.desk.end(n), n == text.length() ? 0 : 1);
            EDGE.due("end(1), bytes being gone", EDGE.desk.end(1), -1);
            EDGE.due("end(20), bytes being gone", EDGE.desk.end(20), -1);
            EDGE.due("feed(), bytes being gone", EDGE.desk.feed(0x66756E20, 0x6D28297B, 0x7D000000, 0, 0), 20);
            EDGE.due("end(9)", EDGE.desk.end(9), 0);
            EDGE.due("told(1)", EDGE.desk.told(1), 0);
        }
    }

    private static void refusedEnds() {
        EDGE.promise(3, "NONE, changing nothing, when n is not 0 .. the number of bytes.");
        EDGE.refused("end(-1)", desk -> desk.end(-1), -1);
        EDGE.refused("end(21) of 20 bytes", desk -> desk.end(21), -1);
        for (int far : FAR) {
            EDGE.refused("end(" + far + ")", desk -> desk.end(far), -1);
        }
        EDGE.refused("end(1) of no bytes", desk -> desk.end(1), -1, desk -> { });
        EDGE.refused("end(-1) of no bytes", desk -> desk.end(-1), -1, desk -> { });
        EDGE.fresh();
        Edge.fill(EDGE.desk);
        EDGE.due("end(20) of 20 bytes", EDGE.desk.end(20), 1);
        EDGE.due("told(1), what fills up being }", EDGE.desk.told(1), 17);
    }

    private static void textWithoutBytes() {
        EDGE.promise(3, "(n 0: a fault at 0.)");
        EDGE.fresh();
        EDGE.due("end(0) of no bytes", EDGE.desk.end(0), 1);
        EDGE.due("told(0)", EDGE.desk.told(0), 0);
        EDGE.due("told(1)", EDGE.desk.told(1), 0);
        EDGE.due("told(2)", EDGE.desk.told(2), 0);
        EDGE.desk.feed("fun m(){var x;}");
        EDGE.due("end(0) of 20 bytes", EDGE.desk.end(0), 1);
        EDGE.due("told(1)", EDGE.desk.told(1), 0);
        EDGE.due("end(15), bytes being gone", EDGE.desk.end(15), -1);
    }

    private static void answersOfEnd() {
        EDGE.promise(3, "0 it is a program, which is analysed; 1 it has a fault; 2 something is wrong; "
            + "3 it is a program, and its analysis too much.");
        String[] texts = {"fun m(){var x=1;}", "fun m(){var x=1}", "fun m(){var x=y;}", Edge.tooMuch()};
        for (int before = 0; before < 4; before++) {
            for (int text = 0; text < 4; text++) {
                EDGE.fresh();
                EDGE.due("end() first", EDGE.desk.load(texts[before]), before);
                EDGE.due("end() behind " + before, EDGE.desk.load(texts[text]), text);
                EDGE.due("point(0, 0)", EDGE.desk.point(0, 0), text == 0 || text == 3 ? 1 : 0);
                EDGE.due("point(0, 5)", EDGE.desk.point(0, 5), text == 3 ? 0 : 1);
                EDGE.due("inductive()", EDGE.desk.inductive(), text == 3 ? -3 : -1);
            }
        }
    }

    private static void onlyTheEnd() {
        EDGE.promise(3, "(For 1 and 2 there is a program that has only the end.)");
        for (String text : new String[] {"fun m(){var x=1}", "fun m(){var x=y;}", ""}) {
            EDGE.program("fun m(){var x=any;var t[2];x=1;}");
            EDGE.desk.run(3);
            EDGE.desk.claimNothing(3);
            EDGE.due("end of " + text, EDGE.desk.load(text), text.contains("y") ? 2 : 1);
            EDGE.due("points()", EDGE.desk.points(), 1);
            int[] only = {0, 0, 0, 0, 0, 1, 1};
            for (int what = 0; what < only.length; what++) {
                EDGE.due("point(0, " + what + ")", EDGE.desk.point(0, what), only[what]);
            }
            EDGE.due("point(1, 0)", EDGE.desk.point(1, 0), -1);
            EDGE.known(0, "all");
            EDGE.due("run(0)", EDGE.desk.run(0), 0);
            EDGE.due("inductive()", EDGE.desk.inductive(), -1);
        }
    }

    private static void whatStaysAndWhatGoes() {
        EDGE.promise(3, "Claims are as analysed; the inputs stay.");
        for (String text : new String[] {"fun m(){var x=any;x=x;}", "fun m(){", "fun m(){y=1;}", Edge.tooMuch()}) {
            EDGE.program("fun m(){var x=any;x=x;}");
            EDGE.desk.input(8);
            EDGE.desk.input(9);
            EDGE.due("claim()", EDGE.desk.claim(1, 0, 1, 0, 1, 3), 1);
            EDGE.due("claimNothing(2)", EDGE.desk.claimNothing(2), 1);
            EDGE.desk.load(text);
            EDGE.due("unclaim() behind " + text, EDGE.desk.unclaim(), 0);
            EDGE.due("input() behind " + text, EDGE.desk.input(10), 3);
            EDGE.due("drop() behind " + text, EDGE.desk.drop(), 3);
        }
        EDGE.program("fun m(){}");
        EDGE.desk.input(8);
        EDGE.desk.load("fun m(){var x=any;x=x;}");
        EDGE.due("run(1)", EDGE.desk.run(1), 16);
        EDGE.due("value(0), the input having stayed", EDGE.desk.value(0), 8);
    }

    private static void nothingOfTheProgramBefore() {
        EDGE.promise(3, "The first n bytes are a text, all bytes are gone: 0 it is a program, which is analysed");
        String[] before = {"fun f(a){if(1<2){y=1;}}fun m(){var x=1;while(1<2){f(x);}}", "fun f(){var t[0];}fun m(){if(1<2){}else{f();}}",
            "fun f(a){var t[2];a=a/0;}fun m(){var x;x=any+1;f(x);x=1/any;x=1/any;}",
            "fun f(){if(1<2){}if(1<2){}}fun m(){var t[2];var u[2];f();}", "fun m(){if(1<2){while(1<2){x", Edge.tooMuch()};
        for (String text : before) {
            EDGE.fresh();
            EDGE.desk.load(text);
            EDGE.due("end() behind " + text, EDGE.desk.load("fun m(){var x=any(0,9);if(x<5){x=7;}x=x;}"), 0);
            EDGE.due("points()", EDGE.desk.points(), 5);
            EDGE.known(4, "all");
            EDGE.known(3, "x in 5..9");
            EDGE.due("inductive()", EDGE.desk.inductive(), -1);
            EDGE.due("run(2000)", EDGE.desk.run(2000), 0);
            EDGE.due("ran(1)", EDGE.desk.ran(1), 4);
            for (int p = 0; p < 5; p++) {
                EDGE.due("point(" + p + ", 2)", EDGE.desk.point(p, 2), 0);
                EDGE.due("point(" + p + ", 3)", EDGE.desk.point(p, 3), p == 0 || p == 4 ? 0 : 1);
                EDGE.due("point(" + p + ", 4)", EDGE.desk.point(p, 4), 0);
            }
        }
    }

    private static void told() {
        EDGE.promise(4, "NONE when there was none, or what is none of these.");
        EDGE.fresh();
        EDGE.due("end(1), refused", EDGE.desk.end(1), -1);
        for (int what = -2; what <= 4; what++) {
            EDGE.due("told(" + what + ") without an end()", EDGE.desk.told(what), -1);
        }
        for (String text : new String[] {"fun m(){var x=1;}", "fun m(){var x=1}", "fun m(){var x=y;}", Edge.tooMuch()}) {
            EDGE.fresh();
            EDGE.desk.load(text);
            EDGE.due("told(-1)", EDGE.desk.told(-1), -1);
            EDGE.due("told(0), something", EDGE.desk.told(0) == -1 ? 1 : 0, 0);
            EDGE.due("told(2), something", EDGE.desk.told(2) == -1 ? 1 : 0, 0);
            EDGE.due("told(3)", EDGE.desk.told(3), -1);
            for (int far : FAR) {
                EDGE.due("told(" + far + ")", EDGE.desk.told(far), -1);
            }
        }
        EDGE.refused("told(-1)", desk -> desk.told(-1), -1);
        EDGE.refused("told(3)", desk -> desk.told(3), -1);
    }

    private static void told(int wrong, int place, int work) {
        EDGE.due("told(0)", EDGE.desk.told(0), wrong);
        EDGE.due("told(1)", EDGE.desk.told(1), place);
        EDGE.due("told(2)", EDGE.desk.told(2), work);
    }

    private static void toldByTheLatestEnd() {
        EDGE.promise(4, "Of the latest end(): what = 0 what is wrong (1 to 13; 0 for 0, 1 and 3), 1 the place of the fault, "
            + "or where that is (0 for 0 and 3), 2 the work (0 for 1 to 3)");
        String arrays = "var a[1];var b[1];var c[1];var d[1];var e[1];var f[1];";
        EDGE.program("fun m(){var x=1;x=2;}");
        told(0, 0, 2);
        EDGE.desk.load("fun m(){var x=1}");
        told(0, 15, 0);
        EDGE.desk.load("fun m(){var x=y;}");
        told(1, 14, 0);
        EDGE.desk.load("fun m(){" + arrays + "var g[1];}");
        told(13, 8 + arrays.length(), 0);
        EDGE.desk.load(Edge.tooMuch());
        told(0, 0, 0);
        EDGE.desk.load("fun m(){var x=1;}");
        told(0, 0, 1);
        EDGE.desk.load("fun m(){}");
        told(0, 0, 0);
        EDGE.desk.load("$");
        told(0, 0, 0);
        EDGE.desk.load("fun m(a){}");
        told(7, 4, 0);
        EDGE.due("end(1), refused", EDGE.desk.end(1), -1);
        told(7, 4, 0);
    }

    private static void points() {
        EDGE.promise(5, "How many points there are.");
        for (int statements = 0; statements <= 249; statements += statements == 2 ? 246 : 1) {
            EDGE.program("fun m(){" + "if(1<2){}".repeat(statements) + "}");
            EDGE.due("points() of " + statements + " statements", EDGE.desk.points(), statements + 1);
        }
        EDGE.fresh();
        EDGE.desk.load(Edge.tooMuch());
        EDGE.due("points() of what is too much", EDGE.desk.points(), 26);
    }

    private static void pointNumbers() {
        EDGE.promise(6, "NONE when there is no such point, or what is none of these.");
        for (int statements : new int[] {0, 1, 249}) {
            EDGE.program("fun m(){" + "if(1<2){}".repeat(statements) + "}");
            for (int what = 0; what < 7; what++) {
                EDGE.due("point(-1, " + what + ")", EDGE.desk.point(-1, what), -1);
                EDGE.due("point(0, " + what + "), something", EDGE.desk.point(0, what) == -1 ? 1 : 0, 0);
                EDGE.due("point(" + statements + ", " + what + "), something", EDGE.desk.point(statements, what) == -1 ? 1 : 0, 0);
                EDGE.due("point(" + (statements + 1) + ", " + what + ")", EDGE.desk.point(statements + 1, what), -1);
                for (int far : FAR) {
                    EDGE.due("point(" + far + ", " + what + ")", EDGE.desk.point(far, what), -1);
                }
            }
        }
        EDGE.program("fun m(){var x;x=1;x=2;}");
        EDGE.desk.load("fun m(){var x;}");
        EDGE.due("point(2, 0), which the program before had", EDGE.desk.point(2, 0), -1);
        EDGE.refused("point(6, 0)", desk -> desk.point(6, 0), -1);
    }

    private static void pointWhats() {
        EDGE.promise(6, "NONE when there is no such point, or what is none of these.");
        EDGE.program("fun m(){var x;}");
        for (int p = 0; p < 2; p++) {
            EDGE.due("point(" + p + ", -1)", EDGE.desk.point(p, -1), -1);
            EDGE.due("point(" + p + ", 7)", EDGE.desk.point(p, 7), -1);
            for (int far : FAR) {
                EDGE.due("point(" + p + ", " + far + ")", EDGE.desk.point(p, far), -1);
            }
        }
        EDGE.refused("point(0, 7)", desk -> desk.point(0, 7), -1);
        EDGE.refused("point(0, -1)", desk -> desk.point(0, -1), -1);
    }

    private static void statementsOfPoints() {
        EDGE.promise(6, "what = 0 its statement: 0 the end, 1 var, 2 NAME =, 3 NAME [ ] =, 4 a call, 5 if, 6 while, 7 assert, "
            + "8 return; 1 the place of its first token (0 for the end); 2 its alarms, put together; 3 how many numbers there are, "
            + "4 how many arrays; 5 whether something is known there, 6 whether something is claimed, 1 or 0.");
        String text = "\n fun f(a){return a/a;}fun m(){  var x;var y=any;var t[2];x=1;t[y]=y/x;f(y);x=f(x);if(x<1){}"
            + "while(x<0){}assert(x+y>0&&1/y>0);x=1/0;x=2;}";
        EDGE.program(text);
        int[] kinds = {1, 1, 1, 2, 3, 4, 8, 4, 8, 5, 6, 7, 2, 2, 0};
        int[] numbers = {0, 1, 2, 2, 2, 2, 3, 2, 3, 2, 2, 2, 2, 2, 0};
        // y is any, so t[y] can miss, y / y can divide by 0 and be no int; x + y can be no int, 1 / y can divide by 0
        int[] alarms = {0, 0, 0, 0, 4, 0, 1 + 2, 0, 0, 0, 0, 1 + 2 + 8, 2, 0, 0};
        String[] firsts = {"var x", "var y", "var t", "x=1", "t[y]", "f(y)", "return", "x=f", "return", "if", "while", "assert",
            "x=1/0", "x=2", "\n"};
        for (int p = 0; p < kinds.length; p++) {
            EDGE.due("point(" + p + ", 0)", EDGE.desk.point(p, 0), kinds[p]);
            EDGE.due("point(" + p + ", 1)", EDGE.desk.point(p, 1), text.indexOf(firsts[p]));
            EDGE.due("point(" + p + ", 2)", EDGE.desk.point(p, 2), alarms[p]);
            EDGE.due("point(" + p + ", 3)", EDGE.desk.point(p, 3), numbers[p]);
            EDGE.due("point(" + p + ", 4)", EDGE.desk.point(p, 4), p < 3 || p == 14 ? 0 : 1);
            EDGE.due("point(" + p + ", 5)", EDGE.desk.point(p, 5), p < 13 ? 1 : 0);
            EDGE.due("point(" + p + ", 6)", EDGE.desk.point(p, 6), p < 13 ? 1 : 0);
        }
        EDGE.due("claimNothing(2)", EDGE.desk.claimNothing(2), 1);
        EDGE.due("point(2, 5), nothing being claimed", EDGE.desk.point(2, 5), 1);
        EDGE.due("point(2, 6), nothing being claimed", EDGE.desk.point(2, 6), 0);
    }
}
