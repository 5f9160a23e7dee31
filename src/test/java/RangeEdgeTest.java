/** Paragraphs of 'Terms' on WHAT IS KNOWN, THE RANGE, THE FORM, x = SUM and a[SUM] = SUM, at their edges. */
public final class RangeEdgeTest {
    private static final Edge EDGE = new Edge("RangeEdgeTest");
    private static final String KNOWN = "WHAT IS KNOWN";
    private static final String RANGE = "THE RANGE";
    private static final String FORM = "THE FORM";
    private static final String SET = "x = SUM:";
    private static final String STORE = "a[SUM] = SUM:";
    private static final String INTS = "-2147483648..2147483647";

    public static void main(String[] args) {
        nothingOrAnOctagonAndRanges();
        greatestBounds();
        tightBounds();
        withoutAValue();
        joins();
        numbersAndNames();
        places();
        placesOfTheSmallestAndTheGreatest();
        sumsThatAreNoInts();
        productsThatAreNoInts();
        twoNames();
        divisions();
        divisionsByNearlyAll();
        rests();
        upToTheFirstNothing();
        brackets();
        partsOfForms();
        freeParts();
        twoFreeParts();
        rangeOfNothing();
        oneThatIsFree();
        asFarAsTheseAreInts();
        otherFreeParts();
        newNumbers();
        parameters();
        parametersThatLeaveNothing();
        returns();
        stores();
        sixArrays();
        arraysThatComeAgain();
        EDGE.finish();
    }

    /**
     * The range of a SUM is that of an array of one place to which it is stored; the alarms are those of this statement.
     */
    private static void range(String vars, String sum, int alarms, String want) {
        String text = "fun m(){var r[1];" + vars + "r[0]=" + sum + ";r[0]=0;}";
        EDGE.program(text);
        int p = 1;
        for (int i = 0; i < vars.length(); i++) {
            p += vars.charAt(i) == ';' ? 1 : 0;
        }
        EDGE.due("alarms of r[0] in " + text, EDGE.desk.point(p, 2), alarms);
        long least = EDGE.desk.range(false, p + 1, 0, false);
        long greatest = EDGE.desk.range(false, p + 1, 0, true);
        EDGE.due("the range of " + sum + " in " + text, EDGE.desk.point(p + 1, 5) == 0 ? "nothing" : least + ".." + greatest, want);
    }

    /** What is known behind statements, at the last point that is not the end. */
    private static void behind(String statements, String want) {
        String text = "fun m(){" + statements + "assert(1<2);}";
        EDGE.program(text);
        EDGE.due("the line behind " + statements, EDGE.desk.line(false, EDGE.desk.points() - 2), want);
    }

    private static void bound(int p, int x, int s, int y, int t, long want) {
        EDGE.due("bound(false, " + p + ", " + x + ", " + s + ", " + y + ", " + t + ")", EDGE.desk.bound(false, p, x, s, y, t), want);
    }

    private static void nothingOrAnOctagonAndRanges() {
        EDGE.terms(KNOWN, "WHAT IS KNOWN at a point is NOTHING (no run comes there), or an OCTAGON, and a RANGE for each array, in which all "
            + "its places lie.");
        behind("assert(2<1);", "nothing");
        behind("", "all");
        behind("var x;", "x in 0..0");
        behind("var t[2];", "t[] in 0..0");
        behind("var t[2];t[0]=5;t[1]=-3;", "t[] in -3..5");
        behind("var x=any(1,2);var t[2];t[0]=5;", "x in 1..2, t[] in 0..5");
    }

    private static void greatestBounds() {
        EDGE.terms(KNOWN, "An OCTAGON is a set of values of the numbers (all ints), told by BOUNDS: for each slot x the greatest values of "
            + "x and of -x, for each two the greatest ones of x + y, x - y, -x + y and -x - y.");
        EDGE.program("fun m(){var x=any;var y=any;x=x;}");
        bound(2, 0, 1, 0, 1, 2147483647L);
        bound(2, 0, -1, 0, -1, 2147483648L);
        bound(2, 0, 1, 1, 1, 4294967294L);
        bound(2, 0, 1, 1, -1, 4294967295L);
        bound(2, 0, -1, 1, 1, 4294967295L);
        bound(2, 0, -1, 1, -1, 4294967296L);
        EDGE.program("fun m(){var x;var y;x=x;}");
        for (int signs = 0; signs < 4; signs++) {
            bound(2, 0, 1 - signs / 2 * 2, 1, 1 - signs % 2 * 2, 0);
        }
    }

    private static void tightBounds() {
        EDGE.terms(KNOWN, "Its TIGHT bounds are the least ones that tell the same set: each is the greatest value that comes to be in it.");
        String box = "var x=any(0,10);var y=any(0,10);";
        behind(box + "assert(x+y<=7);", "x in 0..7, y in 0..7, x + y <= 7");
        behind(box + "assert(x-y<=0);assert(x+y<=7);", "x in 0..3, y in 0..7, x + y <= 7, x - y <= 0");
        behind(box + "assert(x-y<=0);assert(x+y<=6);", "x in 0..3, y in 0..6, x + y <= 6, x - y <= 0");
        behind(box + "assert(x==y);assert(x+y<=7);", "x in 0..3, y in 0..3, x - y <= 0, -x + y <= 0");
        behind(box + "assert(x-y==1);assert(x+y<=7);", "x in 1..4, y in 0..3, x - y <= 1, -x + y <= -1");
        behind(box + "assert(x-y==1);assert(x+y<=8);", "x in 1..4, y in 0..3, x - y <= 1, -x + y <= -1");
        behind(box + "var z=any(0,10);assert(x<y);assert(y<z);", "x in 0..8, y in 1..9, z in 2..10, x - y <= -1, x - z <= -2, "
            + "y - z <= -1");
        behind(box + "assert(x==y);assert(x+y>=7);", "x in 4..10, y in 4..10, x - y <= 0, -x + y <= 0");
        // each of the four is bounded by the others, whichever of them were compared last
        String four = "var w=any(0,10);var x=any(0,10);var y=any(0,10);var z=any(0,10);";
        String chain = "w in 0..7, x in 1..8, y in 2..9, z in 3..10, w - x <= -1, w - y <= -2, w - z <= -3, x - y <= -1, x - z <= -2, "
            + "y - z <= -1";
        behind(four + "assert(w<x);assert(y<z);assert(x<y);", chain);
        behind(four + "assert(x<y);assert(y<z);assert(w<x);", chain);
        behind(four + "assert(w<x);assert(x<y);assert(y<z);", chain);
        behind(four + "assert(w<=x);assert(y<=z);assert(x<=y);", "w in 0..10, x in 0..10, y in 0..10, z in 0..10, w - x <= 0, w - y <= 0, "
            + "w - z <= 0, x - y <= 0, x - z <= 0, y - z <= 0");
        behind(four + "assert(w+x<=10);assert(y>=z);assert(x>=y);", "w in 0..10, x in 0..10, y in 0..10, z in 0..10, w + x <= 10, "
            + "w + y <= 10, w + z <= 10, -x + y <= 0, -x + z <= 0, -y + z <= 0");
        EDGE.program("fun m(){" + box + "assert(x<5);x=x;}");
        bound(3, 0, 1, 1, 1, 14);
        bound(3, 0, 1, 1, -1, 4);
        bound(3, 0, -1, 1, 1, 10);
        EDGE.program("fun m(){" + box + "assert(y<5);x=x;}");
        bound(3, 0, 1, 1, 1, 14);
        bound(3, 0, 1, 1, -1, 10);
        bound(3, 0, -1, 1, 1, 4);
        behind("var x=any;var y=any;assert(x<y);", "x in -2147483648..2147483646, y in -2147483647..2147483647, x - y <= -1");
    }

    private static void withoutAValue() {
        EDGE.terms(KNOWN, "Without a value there is NOTHING.");
        String box = "var x=any(0,10);var y=any(0,10);";
        behind(box + "assert(x==y);assert(x+y==1);", "nothing");
        behind(box + "assert(x==y);assert(x+y==2);", "x in 1..1, y in 1..1");
        behind(box + "assert(x==y);assert(x+y==19);", "nothing");
        behind(box + "assert(x==y);assert(x+y==20);", "x in 10..10, y in 10..10");
        behind("var a;var b;" + box + "assert(x==y);assert(x+y==1);", "nothing");
        behind("var a;var b;" + box + "assert(x==y);assert(x+y==2);", "a in 0..0, b in 0..0, x in 1..1, y in 1..1");
        behind("var a;var b;var c;var d;var e;var f;var g;var h;var i;var j;" + box + "assert(x==y);assert(x+y==1);", "nothing");
        // no two of these bounds leave nothing, but all of them do: by x + y + z each is 7 at most
        String three = "var x=any(0,2147483647);var y=any(0,2147483647);var z=any(0,2147483647);"
            + "assert(x+y>=2147483640&&y+z>=2147483640&&x+z>=2147483640);";
        behind(three + "var w=x+y+z;", "nothing");
        behind(three + "x=x+y+z;", "nothing");
        range(three, "x+y+z", 1, "2147483640..2147483647");
        behind(three + "if(any<1){var w=x+y+z;}var v=1;", "x in 0..2147483647, y in 0..2147483647, z in 0..2147483647, v in 1..1, "
            + "-x - y <= -2147483640, -x - z <= -2147483640, -y - z <= -2147483640");
        // y - x is 1, but no more than 2 less 1, or 1 less 1
        String two = "var x=any(-5,5);var y=x+1;var z=any(-5,5);var w=z+1;";
        behind(two + "assert(x-y+z-w>=-2);", "x in -5..5, y in -4..6, z in -5..5, w in -4..6, x - y <= -1, -x + y <= 1, z - w <= -1, "
            + "-z + w <= 1");
        behind(two + "assert(x-y+z-w>=-1);", "nothing");
        behind(box + "assert(x-y==10);", "x in 10..10, y in 0..0");
        behind(box + "assert(x-y==11);", "nothing");
        behind(box + "assert(x<y);assert(y<=x);", "nothing");
        behind(box + "var z=any(0,10);assert(x<y);assert(y<z);assert(z<=x+1);", "nothing");
        behind(box + "var z=any(0,10);assert(x<y);assert(y<z);assert(z<=x+2);", "x in 0..8, y in 1..9, z in 2..10, x - y <= -1, "
            + "-x + y <= 1, x - z <= -2, -x + z <= 2, y - z <= -1, -y + z <= 1");
    }

    private static void joins() {
        EDGE.terms(KNOWN, "the JOIN of two is the least octagon, with the least ranges, in which both lie (that of NOTHING and another one "
            + "is this)");
        String vars = "var x=5;var y=5;var t[2];";
        behind(vars + "if(any<1){x=1;t[0]=3;}else{y=2;t[0]=-4;}", "x in 1..5, y in 2..5, x + y <= 7, -x - y <= -6, t[] in -4..3");
        behind(vars + "if(any<1){x=1;t[0]=3;}", "x in 1..5, y in 5..5, t[] in 0..3");
        behind(vars + "if(any<1){x=1;t[0]=3;}else{x=1/0;}", "x in 1..1, y in 5..5, t[] in 0..3");
        behind(vars + "if(any<1){x=1/0;}else{x=1;t[0]=3;}", "x in 1..1, y in 5..5, t[] in 0..3");
        behind(vars + "if(any<1){x=1/0;}", "x in 5..5, y in 5..5, t[] in 0..0");
        behind(vars + "if(any<1){x=1/0;}else{x=1/0;}", "nothing");
    }

    private static void numbersAndNames() {
        EDGE.terms(RANGE, "of NUMBER it; of NAME its tight bounds; of any all ints, or the LIMITs");
        range("", "0", 0, "0..0");
        range("", "2147483647", 0, "2147483647..2147483647");
        range("", "any", 0, INTS);
        range("", "any(0,0)", 0, "0..0");
        range("", "any(-7,3)", 0, "-7..3");
        range("", "any(-2147483647,2147483647)", 0, "-2147483647..2147483647");
        range("", "any(2147483647,2147483647)", 0, "2147483647..2147483647");
        range("var x=any;", "x", 0, INTS);
        range("var x=any(-3,4);", "x", 0, "-3..4");
        range("var x=any(0,9);var y=any(0,9);assert(x<y);", "x", 0, "0..8");
        range("var x=-2147483647-1;", "x", 0, "-2147483648..-2147483648");
    }

    private static void places() {
        EDGE.terms(RANGE, "of NAME [ SUM ] that of the array, alarm 4 if the range of the SUM has a place that the array has not, nothing "
            + "if it has none that it has");
        String array = "var t[3];t[0]=any(5,9);";
        range(array, "t[0]", 0, "0..9");
        range(array, "t[2]", 0, "0..9");
        range(array, "t[3]", 4, "nothing");
        range(array, "t[-1]", 4, "nothing");
        range(array, "t[any(0,2)]", 0, "0..9");
        range(array, "t[any(0,3)]", 4, "0..9");
        range(array, "t[any(-1,2)]", 4, "0..9");
        range(array, "t[any(-9,0)]", 4, "0..9");
        range(array, "t[any(2,9)]", 4, "0..9");
        range(array, "t[any(3,9)]", 4, "nothing");
        range(array, "t[any(-9,-1)]", 4, "nothing");
        range(array, "t[any]", 4, "0..9");
        range(array, "t[t[1]%3]", 0, "0..9");
        range(array, "t[t[1]]", 4, "0..9");
    }

    private static void placesOfTheSmallestAndTheGreatest() {
        EDGE.terms(RANGE, "alarm 4 if the range of the SUM has a place that the array has not, nothing if it has none that it has");
        for (int size : new int[] {1, 2, 63, 64}) {
            String array = "var t[" + size + "];";
            range(array, "t[" + (size - 1) + "]", 0, "0..0");
            range(array, "t[" + size + "]", 4, "nothing");
            range(array, "t[any(0," + (size - 1) + ")]", 0, "0..0");
            range(array, "t[any(0," + size + ")]", 4, "0..0");
            range(array, "t[any(-1,0)]", 4, "0..0");
            range(array, "t[any(" + (size - 1) + "," + size + ")]", 4, "0..0");
            range(array, "t[any(" + size + ",2147483647)]", 4, "nothing");
            range(array, "t[any(-2147483647,-1)]", 4, "nothing");
        }
    }

    private static void sumsThatAreNoInts() {
        EDGE.terms(RANGE, "Then, of - + - * /: alarm 1 if the range has something that is no int, which is left out; nothing if nothing is "
            + "left.");
        range("", "2147483647+0", 0, "2147483647..2147483647");
        range("", "2147483647+1", 1, "nothing");
        range("", "2147483647+any(-5,0)", 0, "2147483642..2147483647");
        range("", "2147483647+any(-5,1)", 1, "2147483642..2147483647");
        range("", "2147483647+any(0,1)", 1, "2147483647..2147483647");
        range("", "2147483647+any(1,5)", 1, "nothing");
        range("", "2147483647+2147483647", 1, "nothing");
        range("", "-2147483647-1", 0, "-2147483648..-2147483648");
        range("", "-2147483647-2", 1, "nothing");
        range("", "-2147483647-any(0,1)", 0, "-2147483648..-2147483647");
        range("", "-2147483647-any(0,2)", 1, "-2147483648..-2147483647");
        range("", "-2147483647-any(1,2)", 1, "-2147483648..-2147483648");
        range("", "-2147483647+any(-2,-1)", 1, "-2147483648..-2147483648");
        range("", "2147483647-any(-1,0)", 1, "2147483647..2147483647");
        range("", "any+any(0,0)", 0, INTS);
        range("", "any+any(0,1)", 1, INTS);
        range("", "any+2147483647", 1, "-1..2147483647");
        range("", "any-2147483647", 1, "-2147483648..0");
        range("var x=any(-2147483647,5);", "-x", 0, "-5..2147483647");
        range("var x=any;", "-x", 1, "-2147483647..2147483647");
        range("var x=-2147483647-1;", "-x", 1, "nothing");
        range("var x=-2147483647;", "-x", 0, "2147483647..2147483647");
        // what comes between must be ints, too
        range("", "2147483647+1-1", 1, "nothing");
        range("", "2147483647+any(0,1)-1", 1, "2147483646..2147483646");
    }

    private static void productsThatAreNoInts() {
        EDGE.terms(RANGE, "of - + - * the least and greatest of what comes of values of the parts, taken one by one");
        range("", "any(-3,2)*any(-5,4)", 0, "-12..15");
        range("", "any(-3,-2)*any(-5,-4)", 0, "8..15");
        range("", "any(-3,-2)*any(4,5)", 0, "-15..-8");
        range("", "any(2,3)*any(-5,4)", 0, "-15..12");
        range("", "any(-5,4)*any(-3,-2)", 0, "-12..15");
        range("var x=any(-3,2);", "x*x", 0, "-6..9");
        range("", "any*0", 0, "0..0");
        range("", "any*1", 0, INTS);
        range("", "any*any(0,1)", 0, INTS);
        range("", "any*any(-1,0)", 1, "-2147483647..2147483647");
        range("", "any*2", 1, INTS);
        range("", "any*any", 1, INTS);
        range("", "65536*32767", 0, "2147418112..2147418112");
        range("", "65536*32768", 1, "nothing");
        range("", "65536*any(32767,32768)", 1, "2147418112..2147483647");
        range("", "65536*-32768", 0, "-2147483648..-2147483648");
        range("", "65536*-32769", 1, "nothing");
        range("", "46340*46341", 0, "2147441940..2147441940");
        range("", "46341*46341", 1, "nothing");
        range("var x=-2147483647-1;", "x*x", 1, "nothing");
        range("var x=-2147483647-1;", "x*-1", 1, "nothing");
        range("var x=-2147483647-1;", "x*any(-1,1)", 1, INTS);
    }

    private static void twoNames() {
        EDGE.terms(RANGE, "(but of NAME + NAME and NAME - NAME for two different slots what the tight bounds of both say, and of NAME - "
            + "NAME for the same one 0)");
        String nine = "var x=any(0,9);var y=9-x;";
        range(nine, "x+y", 0, "9..9");
        range(nine, "y+x", 0, "9..9");
        range(nine, "x-y", 0, "-9..9");
        range("var x=any(0,9);var y=x+2;", "x-y", 0, "-2..-2");
        range("var x=any(0,9);var y=x+2;", "y-x", 0, "2..2");
        range("var x=any(0,9);var y=x+2;", "x+y", 0, "2..20");
        range("var x=any(0,9);", "x-x", 0, "0..0");
        range("var x=any(0,9);", "x+x", 0, "0..18");
        range("var x=any;", "x-x", 0, "0..0");
        range("var x=any;", "x+x", 1, INTS);
        range("var x=any(0,9);", "-x+x", 0, "-9..9");
        range("var x=any(0,9);", "x-x*1", 0, "-9..9");
        range("var x=any(0,2147483647);var y=2147483647-x;", "x+y", 0, "2147483647..2147483647");
        range("var x=any(0,2147483647);var y=2147483647-x;", "x+y*1", 1, "0..2147483647");
        range("var x=any(1,2147483647);var y=2147483647;", "x+y", 1, "nothing");
        range("var x=any(-2147483647,0);var y=x;", "y-x", 0, "0..0");
        range("var t[2];t[0]=5;", "t[0]-t[0]", 0, "-5..5");
        // what is reckoned from a NAME is no NAME any more
        for (String sum : new String[] {"x*1+y", "x/1+y", "x%10+y", "--x+y", "x+y*1", "x+y/1", "x+y%10", "x+ --y"}) {
            range(nine, sum, 0, "0..18");
        }
        for (String sum : new String[] {"x-x*1", "x-x/1", "x-x%10", "x- --x", "x/1-x", "x%10-x"}) {
            range(nine, sum, 0, "-9..9");
        }
        range(nine, "(x-y)+y", 0, "-9..18");
    }

    private static void divisions() {
        EDGE.terms(RANGE, "of / that for all values of the second part but 0, alarm 2 if it has 0, nothing if it is 0 alone");
        String x = "var x=any(-7,9);";
        range(x, "x/1", 0, "-7..9");
        range(x, "x/2", 0, "-3..4");
        range(x, "x/-2", 0, "-4..3");
        range(x, "x/-1", 0, "-9..7");
        range(x, "x/any(2,3)", 0, "-3..4");
        range(x, "x/any(-3,-2)", 0, "-4..3");
        range(x, "x/any(1,3)", 0, "-7..9");
        range(x, "x/any(0,3)", 2, "-7..9");
        range(x, "x/any(-3,-1)", 0, "-9..7");
        range(x, "x/any(-3,0)", 2, "-9..7");
        range(x, "x/any(-1,1)", 2, "-9..9");
        range(x, "x/any(-1,0)", 2, "-9..7");
        range(x, "x/any(0,1)", 2, "-7..9");
        range(x, "x/0", 2, "nothing");
        range(x, "x/any(0,0)", 2, "nothing");
        range(x, "x/(x-x)", 2, "nothing");
        range(x, "x/any", 2, "-9..9");
        range(x, "x/10", 0, "0..0");
        range(x, "x/9", 0, "0..1");
        range("", "any(5,9)/any(2,3)", 0, "1..4");
        range("", "any(-9,-5)/any(2,3)", 0, "-4..-1");
        range("", "any(5,9)/any(-3,-2)", 0, "-4..-1");
        range("", "0/any", 2, "0..0");
    }

    private static void divisionsByNearlyAll() {
        EDGE.terms(RANGE, "Then, of - + - * /: alarm 1 if the range has something that is no int, which is left out");
        String least = "var x=-2147483647-1;";
        range(least, "x/-1", 1, "nothing");
        range(least, "x/1", 0, "-2147483648..-2147483648");
        range(least, "x/-2", 0, "1073741824..1073741824");
        range(least, "x/any(-2,-1)", 1, "1073741824..2147483647");
        range(least, "x/any(-1,0)", 3, "nothing");
        range(least, "x/any(-1,1)", 3, INTS);
        range("", "any/any(-2,2)", 3, INTS);
        range("", "any/any(0,2)", 2, INTS);
        range("", "any/any(1,2)", 0, INTS);
        range("", "any/-1", 1, "-2147483647..2147483647");
        range("", "any/any(-2,-1)", 1, "-2147483647..2147483647");
        range("", "any/any(-1,0)", 3, "-2147483647..2147483647");
        range("", "any/-2", 0, "-1073741823..1073741824");
        range("", "any(-2147483647,5)/-1", 0, "-5..2147483647");
    }

    private static void rests() {
        EDGE.terms(RANGE, "of % likewise alarm 2 and nothing, otherwise, a .. b being the range of the first part and m the greatest of v "
            + "and -v for v of that of the second one: from 0 if a is not below 0, else from the greater one of a and 1 - m; up to 0 if b is "
            + "not above 0, else up to the less one of b and m - 1.");
        range("", "any(0,10)%4", 0, "0..3");
        range("", "any(0,10)%10", 0, "0..9");
        range("", "any(0,10)%11", 0, "0..10");
        range("", "any(0,10)%12", 0, "0..10");
        range("", "any(3,10)%100", 0, "0..10");
        range("", "any(0,10)%-4", 0, "0..3");
        range("", "any(-10,0)%4", 0, "-3..0");
        range("", "any(-10,-3)%4", 0, "-3..0");
        range("", "any(-3,10)%4", 0, "-3..3");
        range("", "any(-3,10)%3", 0, "-2..2");
        range("", "any(-3,10)%5", 0, "-3..4");
        range("", "any(-1,1)%2", 0, "-1..1");
        range("", "any(-1,1)%1", 0, "0..0");
        range("", "any(-3,10)%any(-5,2)", 2, "-3..4");
        range("", "any(-3,10)%any(-2,5)", 2, "-3..4");
        range("", "any(-3,10)%any(1,5)", 0, "-3..4");
        range("", "any(-3,10)%any(-5,-1)", 0, "-3..4");
        range("", "any(-3,10)%any(0,4)", 2, "-3..3");
        range("", "any(-3,10)%any(-4,0)", 2, "-3..3");
        range("", "any(-3,10)%0", 2, "nothing");
        range("", "any(-3,10)%any(0,0)", 2, "nothing");
        range("", "0%any(0,1)", 2, "0..0");
        range("", "any%any(-1,1)", 2, "0..0");
        range("", "any%any", 2, "-2147483647..2147483647");
        range("", "5%any", 2, "0..5");
        range("var x=-2147483647-1;", "x%-1", 0, "0..0");
        range("var x=-2147483647-1;", "any%x", 0, "-2147483647..2147483647");
        range("var x=-2147483647-1;", "x%x", 0, "-2147483647..0");
        range("", "any%2147483647", 0, "-2147483646..2147483646");
    }

    private static void upToTheFirstNothing() {
        EDGE.terms(RANGE, "What is to be looked at is looked at from the left to the right, up to the first part for which there is nothing; "
            + "then there is nothing for the whole, and what stands behind it in the statement is not looked at.");
        String array = "var t[2];";
        range(array, "1/0+t[2]", 2, "nothing");
        range(array, "t[2]+1/0", 4, "nothing");
        range(array, "1/any+t[2]", 6, "nothing");
        range(array, "2147483647+1+1/0", 1, "nothing");
        range(array, "2147483647+(1+1/0)", 2, "nothing");
        range(array, "t[1/0]", 2, "nothing");
        range(array, "t[1/any(0,1)]+any/0+t[2]", 2, "nothing");
        range(array, "t[any]/any+any+any", 7, INTS);
        range(array, "-(t[2])*(1/0)", 4, "nothing");
        String[] statements = {"t[2]=1/0;", "t[1/0]=t[2];", "f(1/0,t[2]);", "f(t[2],1/0);", "f(1,1/0);", "x=f(1/0,t[2]);", "var y=1/0+t[2];",
            "x=t[2]+1/0;", "assert(1/0<t[2]);", "assert(t[2]<1/0);", "if(1/0<1||t[2]<1){}", "while(1/0<1&&t[2]<1){}"};
        int[] alarms = {4, 2, 2, 4, 2, 2, 2, 4, 2, 4, 2, 2};
        for (int k = 0; k < statements.length; k++) {
            EDGE.program("fun f(a,b){return a;}fun m(){var x;var t[2];" + statements[k] + "x=1/0;}");
            EDGE.due("alarms of " + statements[k], EDGE.desk.point(2, 2), alarms[k]);
            EDGE.due("known behind " + statements[k], EDGE.desk.point(EDGE.desk.points() - 2, 5), 0);
            EDGE.due("alarms behind " + statements[k], EDGE.desk.point(EDGE.desk.points() - 2, 2), 0);
        }
    }

    private static void brackets() {
        EDGE.terms(RANGE, "(Brackets don't matter; in x + y + z the first + is one of NAME + NAME.)");
        String nine = "var x=any(0,9);var y=9-x;";
        range(nine, "(x)+(y)", 0, "9..9");
        range(nine, "((x)+((y)))", 0, "9..9");
        range(nine, "(x)-((x))", 0, "0..0");
        range(nine, "x+y+1", 0, "10..10");
        range(nine, "x+y+x", 0, "9..18");
        range(nine, "(x+y)+x", 0, "9..18");
        range(nine, "x+(y+x)", 0, "9..18");
        range(nine, "x+(x+y)", 0, "9..18");
        range(nine, "1+x+y", 0, "1..19");
        range(nine, "1+(x+y)", 0, "10..10");
        range(nine, "x+1+y", 0, "1..19");
        range(nine, "x- -y", 0, "0..18");
    }

    private static void partsOfForms() {
        EDGE.terms(FORM, "its PARTS, with their signs: those of a + or - at its outside, the signs of what is behind - turned round; of - "
            + "FACTOR those of the FACTOR, turned round; otherwise it is one part itself. (Brackets don't matter.)");
        String y = "var y=any(0,5);var x=";
        String plus = "y in 0..5, x in 1..6, y - x <= -1, -y + x <= 1";
        String minus = "y in 0..5, x in -4..1, y + x <= 1, -y - x <= -1";
        behind(y + "y+1;", plus);
        behind(y + "1+y;", plus);
        behind(y + "(1)+((y));", plus);
        behind(y + "-(-y-1);", plus);
        behind(y + "1-(-y);", plus);
        behind(y + "1--y;", plus);
        behind(y + "2-(1-y);", plus);
        behind(y + "--y+1;", plus);
        behind(y + "-(-(y+1));", plus);
        behind(y + "1-y;", minus);
        behind(y + "-y+1;", minus);
        behind(y + "-(y-1);", minus);
        behind(y + "1+-y;", minus);
        behind(y + "-(-(1-y));", minus);
        behind(y + "---y+1;", minus);
        behind(y + "1-(2-(3-(1-y)));", "y in 0..5, x in 1..6, y - x <= -1, -y + x <= 1");
        behind(y + "2-(4-(3-y));", minus);
        behind(y + "4-(2-(1-(2-(0-y))));", "y in 0..5, x in -4..1, y + x <= 1, -y - x <= -1");
        // one part itself: a product, a quotient, a rest, a place, so that there is no NAME
        behind(y + "y*1;", "y in 0..5, x in 0..5");
        behind(y + "1*y;", "y in 0..5, x in 0..5");
        behind(y + "-y*1;", "y in 0..5, x in -5..0");
        behind(y + "-(y*1);", "y in 0..5, x in -5..0");
        behind(y + "y/1;", "y in 0..5, x in 0..5");
        behind(y + "y%9;", "y in 0..5, x in 0..5");
        behind("var t[1];t[0]=3;" + y + "t[0]+y;", "y in 0..5, x in 3..8, y - x <= -3, -y + x <= 3, t[] in 3..3");
        behind("var t[9];" + y + "t[y]+1;", "y in 0..5, x in 1..1, t[] in 0..0");
        // a part that is one itself, behind a NAME and turned round
        String less = "y in 0..5, x in -2..5, y - x <= 2, -y + x <= 0";
        behind(y + "y-any(0,2)*1;", less);
        behind(y + "y-1*any(0,2);", less);
        behind(y + "y-any(0,2)/1;", less);
        behind(y + "y-(any(0,2)*1);", less);
        behind(y + "y+ -any(0,2)*1;", less);
        behind(y + "-(any(0,2)*1-y);", less);
        behind("var t[1];t[0]=any(0,2);" + y + "y-t[0];", less + ", t[] in 0..2");
        behind("var t[1];t[0]=any(0,2);" + y + "-t[0]+y;", less + ", t[] in 0..2");
        behind("var t[1];t[0]=any(0,2);" + y + "y-(t[0]);", less + ", t[] in 0..2");
    }

    private static void freeParts() {
        EDGE.terms(FORM, "A part is FREE if it is a NAME of a number that is no other part of the form (so in x - x and in x + 1 - x none "
            + "is)");
        String x = "var x=any(0,10);var y=x;";
        behind(x + "x=x-x;", "x in 0..0, y in 0..10");
        behind(x + "x=x+1-x;", "x in -9..11, y in 0..10");
        behind(x + "x=x+x;", "x in 0..20, y in 0..10");
        behind(x + "x=x+1;", "x in 1..11, y in 0..10, x - y <= 1, -x + y <= -1");
        // x is one part, 2 * x is another one that is no NAME
        behind(x + "x=x+2*x;", "x in 0..30, y in 0..10, x - y <= 20, -x + y <= 0");
        behind("var x=any(0,10);var z=x+x;", "x in 0..10, z in 0..20");
        behind("var x=any(0,10);var z=x+2*x;", "x in 0..10, z in 0..30, x - z <= 0, -x + z <= 20");
        behind("var x=any(0,10);var y=any(0,3);var z=x-x+y;", "x in 0..10, y in 0..3, z in 0..3");
        behind("var x=any(0,10);var y=any(0,3);var z=y+(x-x);", "x in 0..10, y in 0..3, z in 0..3");
    }

    private static void twoFreeParts() {
        EDGE.terms(FORM, "but of two free ones alone, with any NUMBERs (with + or -), it is what the tight bounds say");
        String vars = "var x=any(0,9);var y=9-x;var w=any(0,1);";
        // z - w is the range of x and y alone with NUMBERs, which is 9 with them, whatever the range of the SUM is
        EDGE.program("fun m(){" + vars + "var z=x+y+w;var u=x+1+y-3+w;var v=2*3+x+y+w;var q=x+y+w+w-0;q=0;}");
        bound(4, 3, 1, 2, -1, 9);
        bound(4, 3, -1, 2, 1, -9);
        bound(5, 4, 1, 2, -1, 7);
        bound(5, 4, -1, 2, 1, -7);
        bound(5, 4, 1, 4, 1, 8);
        bound(5, 4, -1, 4, -1, -7);
        // 2 * 3 is no NUMBER, so ranges are added: v - w is in 6 .. 24, v - x and v - y are in 6 .. 16; as x + y is 9, 2 v
        // is 16 + 16 + 9 at most and 6 + 6 + 9 at least, so v is in 11 .. 20, and w in 0 .. 1
        bound(6, 5, 1, 2, -1, 20);
        bound(6, 5, -1, 2, 1, -10);
        // w is twice there, so x and y are not alone for any other part
        bound(7, 6, 1, 0, -1, 11);
        bound(7, 6, -1, 0, 1, 0);
        EDGE.terms(FORM, "the RANGE of some parts is the sum of theirs, turned round for -");
        EDGE.program("fun m(){var x=any(0,9);var y=any(2,3);var z=any(-1,4);var w=x-y-z;var v=x-(y+z*1)+5;v=0;}");
        bound(4, 3, 1, 0, -1, -1);
        bound(4, 3, -1, 0, 1, 7);
        bound(5, 4, 1, 0, -1, 4);
        bound(5, 4, -1, 0, 1, 2);
        EDGE.terms(FORM, "(Ranges of parts are those told above, that of the SUM too; of free ones the bounds.)");
        // the product has 2147483647 at most as a part, and the SUM too, but not what comes to them
        EDGE.program("fun m(){var x=any(0,9);var y=any(0,3)*2147483647+x;y=0;}");
        EDGE.due("alarms", EDGE.desk.point(1, 2), 1);
        bound(2, 1, 1, 1, 1, 2147483647L);
        bound(2, 1, 1, 0, -1, 2147483647L);
        bound(2, 1, -1, 0, 1, 0);
        EDGE.terms(FORM, "but of two free ones alone, with any NUMBERs (with + or -), it is what the tight bounds say");
        EDGE.program("fun m(){" + vars + "assert(x+y+w<=9);assert(1<2);}");
        EDGE.known(4, "x in 0..9, y in 0..9, w in 0..0, x + y <= 9, -x - y <= -9");
        EDGE.program("fun m(){" + vars + "assert(x+y+w+2-1<=9);assert(1<2);}");
        EDGE.known(4, "nothing");
    }

    private static void rangeOfNothing() {
        EDGE.terms(SET, "x = SUM: if its range is nothing: NOTHING.");
        behind("var x;x=1/0;", "nothing");
        behind("var x;x=2147483647;x=x+1;", "nothing");
        behind("var x;x=2147483646;x=x+1;", "x in 2147483647..2147483647");
        behind("var x;var t[2];x=t[2];", "nothing");
        behind("var x=1/0;", "nothing");
    }

    private static void oneThatIsFree() {
        EDGE.terms(SET, "if x is free in the form with +, it is the set of all s + v with v in the range of the other parts; with -, all v - "
            + "s (as far as these are ints); if it is not, x is any int.");
        String vars = "var x=any(0,10);var y=x;";
        behind(vars + "x=x;", "x in 0..10, y in 0..10, x - y <= 0, -x + y <= 0");
        behind(vars + "x=x+3;", "x in 3..13, y in 0..10, x - y <= 3, -x + y <= -3");
        behind(vars + "x=x-3;", "x in -3..7, y in 0..10, x - y <= -3, -x + y <= 3");
        behind(vars + "x=x+any(-1,2);", "x in -1..12, y in 0..10, x - y <= 2, -x + y <= 1");
        behind(vars + "x=-x;", "x in -10..0, y in 0..10, x + y <= 0, -x - y <= 0");
        behind(vars + "x=3-x;", "x in -7..3, y in 0..10, x + y <= 3, -x - y <= -3");
        behind(vars + "x=any(-1,2)-x;", "x in -11..2, y in 0..10, x + y <= 2, -x - y <= 1");
        behind(vars + "y=-y;", "x in 0..10, y in -10..0, x + y <= 0, -x - y <= 0");
        behind(vars + "y=3-y;", "x in 0..10, y in -7..3, x + y <= 3, -x - y <= -3");
        String three = "var a=any(0,3);var x=a+1;var y=x+2;";
        behind(three + "x=-x;", "a in 0..3, x in -4..-1, y in 3..6, a + x <= -1, -a - x <= 1, a - y <= -3, -a + y <= 3, x + y <= 2, "
            + "-x - y <= -2");
        behind(three + "y=-y;", "a in 0..3, x in 1..4, y in -6..-3, a - x <= -1, -a + x <= 1, a + y <= -3, -a - y <= 3, x + y <= -2, "
            + "-x - y <= 2");
        behind(three + "a=-a;", "a in -3..0, x in 1..4, y in 3..6, a + x <= 1, -a - x <= -1, a + y <= 3, -a - y <= -3, x - y <= -2, "
            + "-x + y <= 2");
        // among twelve numbers
        StringBuilder eleven = new StringBuilder("var a=any(0,3);");
        StringBuilder line = new StringBuilder("a in 0..3");
        for (int k = 0; k < 9; k++) {
            eleven.append("var n").append(k).append("=").append(k).append(";");
            line.append(", n").append(k).append(" in ").append(k).append("..").append(k);
        }
        behind(eleven + "var x=a+1;var y=x+2;x=-x;", line + ", x in -4..-1, y in 3..6, a + x <= -1, -a - x <= 1, a - y <= -3, -a + y <= 3, "
            + "x + y <= 2, -x - y <= -2");
        behind(vars + "x=5;", "x in 5..5, y in 0..10");
        behind(vars + "x=any;", "x in " + INTS + ", y in 0..10");
        behind(vars + "x=x*1;", "x in 0..10, y in 0..10");
        behind(vars + "x=-x*1;", "x in -10..0, y in 0..10");
    }

    private static void asFarAsTheseAreInts() {
        EDGE.terms(SET, "(as far as these are ints)");
        String vars = "var x=any;var y=x;";
        behind(vars + "x=x+1;", "x in -2147483647..2147483647, y in -2147483648..2147483646, x - y <= 1, -x + y <= -1");
        behind(vars + "x=x-1;", "x in -2147483648..2147483646, y in -2147483647..2147483647, x - y <= -1, -x + y <= 1");
        behind(vars + "x=-x;", "x in -2147483647..2147483647, y in -2147483647..2147483647, x + y <= 0, -x - y <= 0");
        behind(vars + "x=-1-x;", "x in -2147483648..2147483647, y in -2147483648..2147483647, x + y <= -1, -x - y <= 1");
        behind(vars + "x=x+2147483647;", "x in -1..2147483647, y in -2147483648..0, x - y <= 2147483647, -x + y <= -2147483647");
        behind(vars + "x=x+any(0,1);", "x in " + INTS + ", y in " + INTS + ", x - y <= 1, -x + y <= 0");
        behind("var x=2147483647;var y=x;x=x+any(0,5);", "x in 2147483647..2147483647, y in 2147483647..2147483647");
    }

    private static void otherFreeParts() {
        EDGE.terms(SET, "In this set, for each other free y, x - y (x + y if it has -) lies in the range of the parts but it, and x in the "
            + "range of the SUM; all of this by ranges from before.");
        String vars = "var x=any(0,10);var y=any(0,5);var z=any(-3,3);";
        behind(vars + "x=y+z;", "x in -3..8, y in 0..5, z in -3..3, x - y <= 3, -x + y <= 3, x - z <= 5, -x + z <= 0");
        behind(vars + "x=y-z;", "x in -3..8, y in 0..5, z in -3..3, x - y <= 3, -x + y <= 3, x + z <= 5, -x - z <= 0");
        behind(vars + "x=x+y;", "x in 0..15, y in 0..5, z in -3..3, x - y <= 10, -x + y <= 0");
        behind(vars + "x=y-x;", "x in -10..5, y in 0..5, z in -3..3, x - y <= 0, -x + y <= 10");
        behind(vars + "x=y;", "x in 0..5, y in 0..5, z in -3..3, x - y <= 0, -x + y <= 0");
        behind(vars + "x=-y;", "x in -5..0, y in 0..5, z in -3..3, x + y <= 0, -x - y <= 0");
        // by ranges from before: the x that stands in the SUM is the one before
        behind("var x=any(0,10);var y=any(0,5);x=x+y+x;", "x in 0..25, y in 0..5, x - y <= 20, -x + y <= 0");
        // x in the range of the SUM: the rest is no more than 3, though x is any int otherwise
        behind("var x=any(0,10);x=any%4;", "x in -3..3");
    }

    private static void newNumbers() {
        EDGE.terms(SET, "var NAME = SUM likewise, x being new; var NAME as with 0");
        behind("var x=any(0,5);var y=x+1;", "x in 0..5, y in 1..6, x - y <= -1, -x + y <= 1");
        behind("var x=any(0,5);var y;", "x in 0..5, y in 0..0");
        behind("var x=any(0,5);if(1<2){var x=x+1;assert(1<2);}", "x in 0..5");
        EDGE.program("fun m(){var x=any(0,5);if(1<2){var x=x+1;x=x;}}");
        EDGE.known(3, "x in 0..5, x in 1..6, x - x <= -1, -x + x <= 1");
    }

    /** A parameter leaves nothing though its SUM has a range, and what stands behind it is not looked at then. */
    private static void parametersThatLeaveNothing() {
        EDGE.terms(SET, "parameters as vars, one after the other, all SUMs by what was known before");
        String three = "fun f(a,b){a=b;}fun m(){var t[2];var x=any(0,2147483647);var y=any(0,2147483647);var z=any(0,2147483647);"
            + "assert(x+y>=2147483640&&y+z>=2147483640&&x+z>=2147483640);f(";
        String[] sums = {"x+y+z,1/0", "x+y+z,t[2]", "1/any,x+y+z", "1/0,x+y+z", "x+y,t[any]"};
        int[] alarms = {1, 1, 3, 2, 5};
        for (int k = 0; k < sums.length; k++) {
            EDGE.program(three + sums[k] + ");t[0]=1;}");
            EDGE.due("alarms of f(" + sums[k] + ")", EDGE.desk.point(5, 2), alarms[k]);
            EDGE.due("known in f(" + sums[k] + ")", EDGE.desk.point(6, 5), k == 4 ? 1 : 0);
            EDGE.due("known behind f(" + sums[k] + ")", EDGE.desk.point(7, 5), k == 4 ? 1 : 0);
        }
    }

    private static void parameters() {
        EDGE.terms(SET, "parameters as vars, one after the other, all SUMs by what was known before");
        EDGE.program("fun f(a,b){a=b;}fun m(){var x=any(0,5);f(x+1,x+1);}");
        EDGE.known(2, "x in 0..5, a in 1..6, b in 1..6, x - a <= -1, -x + a <= 1, x - b <= -1, -x + b <= 1, a - b <= 0, -a + b <= 0");
        // the first parameter leaves 2147483647 out of x, but the range of the next SUM is from before
        EDGE.program("fun f(a,b){a=b;}fun m(){var x=any;var t[9];f(x+1,t[x+1]);}");
        EDGE.due("alarms of the call", EDGE.desk.point(2, 2), 5);
        EDGE.known(3, "x in -2147483648..2147483646, a in -2147483647..2147483647, b in 0..0, x - a <= -1, -x + a <= 1, t[] in 0..0");
        EDGE.program("fun f(a,b){a=b;}fun m(){var x=any;f(x+1,x-1);}");
        EDGE.due("alarms of the call", EDGE.desk.point(1, 2), 1);
        EDGE.known(2, "x in -2147483647..2147483646, a in -2147483646..2147483647, b in -2147483648..2147483645, x - a <= -1, "
            + "-x + a <= 1, x - b <= 1, -x + b <= -1, a - b <= 2, -a + b <= -2");
    }

    private static void returns() {
        EDGE.terms(SET, "a return as NAME = SUM for the NAME in front of the call, or, without one, its SUM's range is looked at alone "
            + "(nothing: NOTHING)");
        EDGE.program("fun f(a){return a+1;}fun m(){var x=any(0,5);var y=any(0,9);x=f(y);x=x;}");
        EDGE.known(4, "x in 1..10, y in 0..9, x - y <= 1, -x + y <= -1");
        EDGE.program("fun f(a){return a+1;}fun m(){var x=any(0,5);x=f(x);x=x;}");
        EDGE.known(3, "x in 1..6");
        EDGE.program("fun f(a){return a+1;}fun m(){var x=any(0,5);f(x);x=x;}");
        EDGE.known(3, "x in 0..5");
        EDGE.program("fun f(a){return a;}fun g(p,q){f(5);q=f(6);p=p;}fun m(){var x=1;var y=2;g(3,4);x=x;}");
        EDGE.known(5, "x in 1..1, y in 2..2, p in 3..3, q in 4..4");
        EDGE.known(7, "x in 1..1, y in 2..2, p in 3..3, q in 6..6");
        EDGE.known(8, "x in 1..1, y in 2..2");
        EDGE.program("fun f(a){return 1/a;}fun m(){var x=any(0,5);f(x);x=x;}");
        EDGE.due("alarms of the return", EDGE.desk.point(2, 2), 2);
        EDGE.known(3, "x in 0..5");
        EDGE.program("fun f(a){return 1/a;}fun m(){var x;f(x);x=x;}");
        EDGE.due("alarms of the return", EDGE.desk.point(2, 2), 2);
        EDGE.known(3, "nothing");
        EDGE.program("fun f(a){return 1/a;}fun m(){var x;x=f(x);x=x;}");
        EDGE.known(3, "nothing");
    }

    private static void sixArrays() {
        EDGE.terms(KNOWN, "the JOIN of two is the least octagon, with the least ranges, in which both lie");
        String six = "var a[1];var b[1];var c[1];var d[2];var e[2];var f[2];";
        behind(six + "a[0]=-1;b[0]=-2;c[0]=3;d[1]=-4;e[1]=5;f[1]=-6;f[0]=7;", "a[] in -1..-1, b[] in -2..-2, c[] in 3..3, d[] in -4..0, "
            + "e[] in 0..5, f[] in -6..7");
        behind(six + "if(any<1){a[0]=-1;c[0]=-3;e[0]=-5;}else{b[0]=2;d[0]=4;f[0]=6;}", "a[] in -1..0, b[] in 0..2, c[] in -3..0, d[] in 0..4, "
            + "e[] in -5..0, f[] in 0..6");
        behind(six + "if(any<1){b[0]=-2;d[0]=-4;f[0]=-6;}else{a[0]=1;c[0]=3;e[0]=5;}", "a[] in 0..1, b[] in -2..0, c[] in 0..3, d[] in -4..0, "
            + "e[] in 0..5, f[] in -6..0");
        range(six.replace("var f[2];", "") + "e[0]=7;d[0]=8;", "e[0]-d[0]", 0, "-8..7");
    }

    private static void arraysThatComeAgain() {
        EDGE.terms("VALUES are ints", "all places of an array with 0, each time");
        EDGE.program("fun f(){var u[2];var v[2];u[0]=5;v[0]=-5;}fun m(){var i;while(i<2){var t[2];t[0]=i+3;t[1]=-4;i=i+1;}f();f();i=i;}");
        EDGE.known(3, "i in 0..1, t[] in 0..0");
        EDGE.known(5, "i in 0..1, t[] in -4..4");
        EDGE.known(8, "i in 2..2, u[] in 0..0");
        EDGE.known(9, "i in 2..2, u[] in 0..0, v[] in 0..0");
        EDGE.known(13, "i in 2..2, u[] in 0..0");
        EDGE.known(14, "i in 2..2, u[] in 0..0, v[] in 0..0");
        EDGE.known(15, "i in 2..2, u[] in 0..5, v[] in 0..0");
    }

    private static void stores() {
        EDGE.terms(STORE, "the range of the first SUM, with alarm 4 and nothing as for NAME [ SUM ], then that of the second one (if one of "
            + "both is nothing: NOTHING); then the array's range is this for one of one place, otherwise the least in which it and this lie.");
        behind("var t[1];t[0]=5;", "t[] in 5..5");
        behind("var t[1];t[any]=5;", "t[] in 5..5");
        behind("var t[1];t[0]=5;t[0]=any(-2,-1);", "t[] in -2..-1");
        behind("var t[2];t[0]=5;", "t[] in 0..5");
        behind("var t[2];t[0]=5;t[0]=any(-2,-1);", "t[] in -2..5");
        behind("var t[2];t[1]=any(-2,3);t[1]=any(-1,2);", "t[] in -2..3");
        behind("var t[64];t[63]=5;", "t[] in 0..5");
        behind("var t[64];t[64]=5;", "nothing");
        behind("var t[1];t[1]=5;", "nothing");
        behind("var t[1];t[-1]=5;", "nothing");
        behind("var t[1];t[0]=1/0;", "nothing");
        behind("var t[2];var u[2];u[any]=any;", "t[] in 0..0, u[] in " + INTS);
        String[] statements = {"t[any(0,1)]=1;", "t[any(0,2)]=1;", "t[any(-1,1)]=1;", "t[any(1,9)]=1;", "t[2]=1;", "t[any(2,9)]=1;",
            "t[any(-9,-1)]=1;", "t[any]=1/any;", "t[0]=t[2];", "t[2]=1/0;", "t[0]=any+1;"};
        int[] alarms = {0, 4, 4, 4, 4, 4, 4, 6, 4, 4, 1};
        for (int k = 0; k < statements.length; k++) {
            EDGE.program("fun m(){var t[2];" + statements[k] + "t[0]=1;}");
            EDGE.due("alarms of " + statements[k], EDGE.desk.point(1, 2), alarms[k]);
        }
    }
}
