import java.util.ArrayList;
import java.util.List;

/**
 * CONDs of up to three TESTs, all that there are of some kinds, SUMs without a value among them: what is known where
 * they hold and fail, and the alarms, are found here by the sentences on TESTs, !, && and ||; and each of them is run,
 * so that nothing is left out to which a run can come.
 */
public final class CondTreeEdgeTest {
    private static final Edge EDGE = new Edge("CondTreeEdgeTest");
    private static final int LEAST = 0;
    private static final int GREATEST = 9;
    private static final int PLACES = 4;
    private static final int NO_INT = 1;
    private static final int BY_ZERO = 2;
    private static final int NO_PLACE = 4;

    public static void main(String[] args) {
        EDGE.terms("A COND splits", "A && B: B is looked at where A holds (not at all if that is NOTHING); where both hold; the join of where "
            + "A fails and where B, looked at so, fails. || likewise, turned round.");
        EDGE.promise(20, "or to a trap for which its point has no such alarm");
        EDGE.promise(20, "It is 0, ever.");
        for (Cond cond : all()) {
            tryCond(cond);
        }
        EDGE.finish();
    }

    /** The values that x can have; NOTHING for null. */
    private record Range(int least, int greatest) {
        static Range of(int least, int greatest) {
            return least > greatest ? null : new Range(least, greatest);
        }

        static Range join(Range one, Range other) {
            if (one == null || other == null) {
                return one == null ? other : one;
            }
            return new Range(Math.min(one.least, other.least), Math.max(one.greatest, other.greatest));
        }

        static String line(Range range) {
            return range == null ? "nothing" : "x in " + range.least + ".." + range.greatest + ", t[] in 0..0";
        }
    }

    private record Sides(Range holds, Range fails, int alarms) {
        static final Sides NOTHING = new Sides(null, null, 0);
    }

    /** What a run finds: a trap, or 0 and whether the COND holds. */
    private record Found(int trap, boolean holds) {
    }

    private interface Cond {
        String text();

        Sides look(Range known);

        Found run(int x);
    }

    private record Less(int than) implements Cond {
        public String text() {
            return "x<" + than;
        }

        public Sides look(Range known) {
            Range holds = Range.of(known.least, Math.min(known.greatest, than - 1));
            return new Sides(holds, Range.of(Math.max(known.least, than), known.greatest), 0);
        }

        public Found run(int x) {
            return new Found(0, x < than);
        }
    }

    /** A TEST with a SUM without a value, whatever is known. */
    private record WithoutValue(String text, int trap) implements Cond {
        public Sides look(Range known) {
            return new Sides(null, null, trap);
        }

        public Found run(int x) {
            return new Found(trap, false);
        }
    }

    /** A TEST with a place of an array, which has a value where x is a place; all places are 0. */
    private record Place(boolean holds) implements Cond {
        public String text() {
            return holds ? "t[x]<1" : "t[x]<0";
        }

        public Sides look(Range known) {
            int alarms = known.least < 0 || known.greatest >= PLACES ? NO_PLACE : 0;
            boolean value = known.greatest >= 0 && known.least < PLACES;
            return new Sides(value && holds ? known : null, value && !holds ? known : null, alarms);
        }

        public Found run(int x) {
            return x >= 0 && x < PLACES ? new Found(0, holds) : new Found(NO_PLACE, false);
        }
    }

    private record Not(Cond inner) implements Cond {
        public String text() {
            return "![" + inner.text() + "]";
        }

        public Sides look(Range known) {
            Sides sides = inner.look(known);
            return new Sides(sides.fails, sides.holds, sides.alarms);
        }

        public Found run(int x) {
            Found found = inner.run(x);
            return new Found(found.trap, !found.holds);
        }
    }

    private record And(Cond first, Cond second) implements Cond {
        public String text() {
            return "[" + first.text() + "]&&[" + second.text() + "]";
        }

        public Sides look(Range known) {
            Sides one = first.look(known);
            Sides two = one.holds == null ? Sides.NOTHING : second.look(one.holds);
            return new Sides(two.holds, Range.join(one.fails, two.fails), one.alarms | two.alarms);
        }

        public Found run(int x) {
            Found found = first.run(x);
            return found.trap == 0 && found.holds ? second.run(x) : found;
        }
    }

    private record Or(Cond first, Cond second) implements Cond {
        public String text() {
            return "[" + first.text() + "]||[" + second.text() + "]";
        }

        public Sides look(Range known) {
            Sides one = first.look(known);
            Sides two = one.fails == null ? Sides.NOTHING : second.look(one.fails);
            return new Sides(Range.join(one.holds, two.holds), two.fails, one.alarms | two.alarms);
        }

        public Found run(int x) {
            Found found = first.run(x);
            return found.trap == 0 && !found.holds ? second.run(x) : found;
        }
    }

    private static List<Cond> all() {
        List<Cond> tests = List.of(new Less(2), new Less(4), new Less(7), new WithoutValue("1/0<1", BY_ZERO),
            new WithoutValue("x<2147483647+1", NO_INT), new Place(true), new Place(false));
        List<Cond> ones = new ArrayList<>(tests);
        for (Cond test : tests) {
            ones.add(new Not(test));
        }
        List<Cond> twos = pairs(tests, ones);
        List<Cond> all = new ArrayList<>(ones);
        all.addAll(twos);
        all.addAll(pairs(twos, tests));
        all.addAll(pairs(tests, twos));
        return all;
    }

    private static List<Cond> pairs(List<Cond> firsts, List<Cond> seconds) {
        List<Cond> pairs = new ArrayList<>();
        for (Cond first : firsts) {
            for (Cond second : seconds) {
                pairs.add(new And(first, second));
                pairs.add(new Or(first, second));
                pairs.add(new Not(new And(first, second)));
                pairs.add(new Not(new Or(first, second)));
            }
        }
        return pairs;
    }

    private static void tryCond(Cond cond) {
        String text = cond.text();
        String vars = "var x=any(" + LEAST + "," + GREATEST + ");var t[" + PLACES + "];";
        EDGE.program("fun m(){" + vars + "if(" + text + "){x=x;}else{x=x;}}");
        Sides sides = cond.look(new Range(LEAST, GREATEST));
        EDGE.due("alarms of " + text, EDGE.desk.point(2, 2), sides.alarms);
        EDGE.due("where it holds: " + text, EDGE.desk.line(false, 3), Range.line(sides.holds));
        EDGE.due("where it fails: " + text, EDGE.desk.line(false, 4), Range.line(sides.fails));
        for (int x = LEAST; x <= GREATEST; x++) {
            EDGE.desk.drop();
            EDGE.desk.input(x);
            Found found = cond.run(x);
            EDGE.due("run(3) by " + x + " of " + text, EDGE.desk.run(3), found.trap == 0 ? 16 : found.trap);
            EDGE.due("ran(0) by " + x + " of " + text, EDGE.desk.ran(0), found.trap != 0 ? 2 : found.holds ? 3 : 4);
            EDGE.due("the alarm for what " + x + " comes to in " + text, EDGE.desk.point(2, 2) & found.trap, found.trap);
        }
        EDGE.due("outside() of " + text, EDGE.desk.outside(), 0);
    }
}
