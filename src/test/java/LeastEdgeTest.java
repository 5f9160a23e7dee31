import java.util.ArrayList;
import java.util.Arrays;
import java.util.List;
import java.util.Random;

/**
 * Tight bounds are the greatest values that come to be, and the least octagon is always meant: what is known before a
 * statement of a small program is taken as a set of values, value by value; what the sentences on assignments, CONDs
 * and joins leave of it is found value by value too, and the greatest values in that are the bounds behind it.
 */
public final class LeastEdgeTest {
    private static final Edge EDGE = new Edge("LeastEdgeTest");
    private static final Random RANDOM = new Random(20);
    private static final int PROGRAMS = 1500;
    private static final int MOST_VALUES = 60000;
    private static final String[] RELATIONS = {"<", "<=", ">", ">=", "==", "!="};
    private static final String[] OPPOSITES = {">=", ">", "<=", "<", "!=", "=="};
    private static final String NAMES = "abcd";
    private static final int NUMBER = -1;
    private static final int ANY = -2;

    private static int numbers;
    private static int tried;

    public static void main(String[] args) {
        EDGE.terms("WHAT IS KNOWN", "each is the greatest value that comes to be in it");
        EDGE.terms("WHAT IS KNOWN", "(So is the least one always meant where something comes from an octagon.)");
        for (int k = 0; k < PROGRAMS; k++) {
            numbers = 2 + RANDOM.nextInt(3);
            tryProgram();
        }
        EDGE.due("enough was tried", tried > PROGRAMS ? 1 : 0, 1);
        EDGE.finish();
    }

    /** A part of a form: a NAME by its slot, a NUMBER, or any(low, high). */
    private record Part(int sign, int slot, int low, int high) {
        String text() {
            if (slot >= 0) {
                return NAMES.substring(slot, slot + 1);
            }
            return slot == NUMBER ? String.valueOf(low) : "any(" + low + "," + high + ")";
        }

        Part turned() {
            return new Part(-sign, slot, low, high);
        }
    }

    private record Range(long least, long greatest) {
        Range plus(Range other) {
            return new Range(least + other.least, greatest + other.greatest);
        }

        Range turned(int sign) {
            return sign > 0 ? this : new Range(-greatest, -least);
        }

        boolean has(long value) {
            return value >= least && value <= greatest;
        }
    }

    /** The greatest values of all sums and differences that are bounded, as the document tells them. */
    private static final class Bounds {
        private final long[] most = new long[4 * numbers * numbers];
        private boolean nothing = true;

        static int at(int x, int s, int y, int t) {
            return 4 * (x * numbers + y) + (s < 0 ? 2 : 0) + (t < 0 ? 1 : 0);
        }

        static boolean isBound(int x, int s, int y, int t) {
            return x < y || x == y && s == t;
        }

        long get(int x, int s, int y, int t) {
            return x <= y ? most[at(x, s, y, t)] : most[at(y, t, x, s)];
        }

        Range ofNumber(int x) {
            return new Range(-get(x, -1, x, -1), get(x, 1, x, 1));
        }

        Range ofTwo(Part one, Part two) {
            long least = -get(one.slot, -one.sign, two.slot, -two.sign);
            return new Range(least, get(one.slot, one.sign, two.slot, two.sign));
        }

        void add(long[] values) {
            each((x, s, y, t) -> {
                long value = x == y ? s * values[x] : s * values[x] + t * values[y];
                int k = at(x, s, y, t);
                most[k] = nothing ? value : Math.max(most[k], value);
            });
            nothing = false;
        }

        boolean admits(long[] values) {
            boolean[] right = {!nothing};
            each((x, s, y, t) -> {
                long value = x == y ? s * values[x] : s * values[x] + t * values[y];
                right[0] &= value <= most[at(x, s, y, t)];
            });
            return right[0];
        }

        /** Not so if one of two numbers is above what those of both alone come to, as no tight one is. */
        boolean areTold() {
            boolean[] right = {true};
            each((x, s, y, t) -> {
                right[0] &= nothing || x == y || get(x, s, y, t) <= get(x, s, x, s) + get(y, t, y, t);
            });
            return right[0];
        }

        static Bounds join(Bounds one, Bounds other) {
            if (one.nothing || other.nothing) {
                return one.nothing ? other : one;
            }
            Bounds both = new Bounds();
            both.nothing = false;
            Arrays.setAll(both.most, k -> Math.max(one.most[k], other.most[k]));
            return both;
        }

        String text() {
            StringBuilder text = new StringBuilder(nothing ? "nothing" : "");
            if (!nothing) {
                each((x, s, y, t) -> text.append(get(x, s, y, t)).append(' '));
            }
            return text.toString();
        }
    }

    private interface Visit {
        void visit(int x, int s, int y, int t);
    }

    private static void each(Visit visit) {
        for (int x = 0; x < numbers; x++) {
            for (int y = x; y < numbers; y++) {
                for (int signs = 0; signs < 4; signs++) {
                    int s = signs < 2 ? 1 : -1;
                    int t = signs % 2 == 0 ? 1 : -1;
                    if (Bounds.isBound(x, s, y, t)) {
                        visit.visit(x, s, y, t);
                    }
                }
            }
        }
    }

    private static Bounds found(int p) {
        Bounds bounds = new Bounds();
        bounds.nothing = EDGE.desk.point(p, 5) == 0;
        if (!bounds.nothing) {
            each((x, s, y, t) -> bounds.most[Bounds.at(x, s, y, t)] = EDGE.desk.bound(false, p, x, s, y, t));
        }
        return bounds;
    }

    /** All values that the numbers can have together; null when these are too many to be looked at. */
    private static List<long[]> valuesOf(Bounds bounds) {
        if (!bounds.areTold()) {
            return null;
        }
        long volume = 1;
        for (int x = 0; x < numbers && !bounds.nothing; x++) {
            Range range = bounds.ofNumber(x);
            volume *= Math.min(range.greatest - range.least + 1, MOST_VALUES);
        }
        if (volume > MOST_VALUES) {
            return null;
        }
        List<long[]> all = new ArrayList<>();
        all.add(new long[numbers]);
        for (int x = 0; x < numbers && !bounds.nothing; x++) {
            List<long[]> more = new ArrayList<>();
            Range range = bounds.ofNumber(x);
            for (long[] values : all) {
                for (long v = range.least; v <= range.greatest; v++) {
                    more.add(with(values, x, v));
                }
            }
            all = more;
        }
        all.removeIf(values -> !bounds.admits(values));
        return all;
    }

    private static long[] with(long[] values, int x, long value) {
        long[] other = values.clone();
        other[x] = value;
        return other;
    }

    private static List<Part> randomSum() {
        List<Part> sum = new ArrayList<>();
        for (int parts = 1 + RANDOM.nextInt(4); parts > 0; parts--) {
            int sign = RANDOM.nextInt(3) == 0 ? -1 : 1;
            int low = RANDOM.nextInt(4);
            int kind = RANDOM.nextInt(10);
            if (kind < 7) {
                sum.add(new Part(sign, RANDOM.nextInt(numbers), 0, 0));
            } else if (kind < 9) {
                sum.add(new Part(sign, NUMBER, low, low));
            } else {
                sum.add(new Part(sign, ANY, low - 2, low));
            }
        }
        return sum;
    }

    private static String text(List<Part> sum) {
        StringBuilder text = new StringBuilder();
        for (Part part : sum) {
            text.append(part.sign < 0 ? "-" : text.length() > 0 ? "+" : "").append(part.text());
        }
        return text.toString();
    }

    private static Range rangeOf(Part part, Bounds before) {
        return part.slot >= 0 ? before.ofNumber(part.slot) : new Range(part.low, part.high);
    }

    /** The range of a SUM, from the left on; none of these comes to the ends of ints. */
    private static Range rangeOfSum(List<Part> sum, Bounds before) {
        Range range = rangeOf(sum.get(0), before).turned(sum.get(0).sign);
        for (int k = 1; k < sum.size(); k++) {
            Part first = sum.get(0);
            Part part = sum.get(k);
            boolean names = k == 1 && first.sign > 0 && first.slot >= 0 && part.slot >= 0;
            if (names && first.slot != part.slot) {
                range = before.ofTwo(first, part);
            } else if (names && part.sign < 0) {
                range = new Range(0, 0);
            } else {
                range = range.plus(rangeOf(part, before).turned(part.sign));
            }
        }
        return range;
    }

    private static boolean isFree(List<Part> form, Part part) {
        return part.slot >= 0 && form.stream().filter(other -> other.slot == part.slot).count() == 1;
    }

    /** The range of all parts of a form but these. */
    private static Range rangeOfOthers(List<Part> form, Bounds before, Part... left) {
        List<Part> others = new ArrayList<>(form);
        others.removeIf(part -> Arrays.stream(left).anyMatch(out -> out == part));
        List<Part> names = new ArrayList<>(others);
        names.removeIf(part -> part.slot == NUMBER);
        boolean twoFree = names.size() == 2 && isFree(form, names.get(0)) && isFree(form, names.get(1));
        Range range = twoFree ? before.ofTwo(names.get(0), names.get(1)) : new Range(0, 0);
        for (Part part : others) {
            if (!twoFree || part.slot == NUMBER) {
                range = range.plus(rangeOf(part, before).turned(part.sign));
            }
        }
        return range;
    }

    private static Bounds assigned(Bounds before, List<long[]> all, int x, List<Part> sum) {
        Range whole = rangeOfSum(sum, before);
        Part own = null;
        for (Part part : sum) {
            if (part.slot == x && isFree(sum, part)) {
                own = part;
            }
        }
        Bounds behind = new Bounds();
        Range others = own == null ? whole : rangeOfOthers(sum, before, own);
        for (long[] values : all) {
            for (long v = others.least; v <= others.greatest; v++) {
                long[] next = with(values, x, own == null ? v : own.sign * values[x] + v);
                if (whole.has(next[x]) && keepsToOthers(before, next, x, sum)) {
                    behind.add(next);
                }
            }
        }
        return behind;
    }

    private static boolean keepsToOthers(Bounds before, long[] next, int x, List<Part> sum) {
        for (Part part : sum) {
            if (part.slot != x && isFree(sum, part)) {
                if (!rangeOfOthers(sum, before, part).has(next[x] - part.sign * next[part.slot])) {
                    return false;
                }
            }
        }
        return true;
    }

    private static boolean meets(Bounds before, long[] values, List<Part> form, long c) {
        if (rangeOfOthers(form, before).least > c) {
            return false;
        }
        for (Part one : form) {
            for (Part two : form) {
                if (isFree(form, one) && isFree(form, two)) {
                    long value = one.sign * values[one.slot] + (one == two ? 0 : two.sign * values[two.slot]);
                    if (value > c - rangeOfOthers(form, before, one, two).least) {
                        return false;
                    }
                }
            }
        }
        return true;
    }

    private static boolean holds(Bounds before, long[] values, List<Part> form, String relation) {
        List<Part> turned = new ArrayList<>();
        form.forEach(part -> turned.add(part.turned()));
        switch (relation) {
            case "<":
                return meets(before, values, form, -1);
            case "<=":
                return meets(before, values, form, 0);
            case ">":
                return meets(before, values, turned, -1);
            case ">=":
                return meets(before, values, turned, 0);
            case "==":
                return meets(before, values, form, 0) && meets(before, values, turned, 0);
            default:
                Range range = rangeOfOthers(form, before);
                if (range.least == 0) {
                    return range.greatest != 0 && meets(before, values, turned, -1);
                }
                return range.greatest != 0 || meets(before, values, form, -1);
        }
    }

    private static Bounds met(Bounds before, List<long[]> all, List<Part> form, String relation) {
        Bounds left = new Bounds();
        for (long[] values : all) {
            if (holds(before, values, form, relation)) {
                left.add(values);
            }
        }
        return left;
    }

    /** A var for each number, then statements that are tried: x = SUM, and CONDs whose two sides are joined behind them. */
    private static void tryProgram() {
        StringBuilder text = new StringBuilder("fun m(){");
        for (int x = 0; x < numbers; x++) {
            int low = RANDOM.nextInt(5) - 3;
            text.append("var ").append(NAMES.charAt(x)).append("=any(").append(low).append(",").append(low + RANDOM.nextInt(6)).append(");");
        }
        List<int[]> kinds = new ArrayList<>();
        List<List<Part>> sums = new ArrayList<>();
        for (int k = 0; k < 4; k++) {
            int x = RANDOM.nextInt(numbers);
            int relation = RANDOM.nextInt(12) - 6;
            List<Part> sum = randomSum();
            if (relation < 0) {
                text.append(NAMES.charAt(x)).append("=").append(text(sum)).append(";");
            } else {
                List<Part> second = randomSum();
                text.append("if(").append(text(sum)).append(RELATIONS[relation]).append(text(second)).append("){assert(1<2);}else{assert(1<2);}");
                second.forEach(part -> sum.add(part.turned()));
            }
            kinds.add(new int[] {x, relation});
            sums.add(sum);
        }
        EDGE.program(text + "assert(1<2);}");
        tryStatements(text.toString(), kinds, sums);
    }

    private static void tryStatements(String text, List<int[]> kinds, List<List<Part>> sums) {
        int p = numbers;
        Bounds before = found(p);
        List<long[]> all = valuesOf(before);
        for (int k = 0; k < kinds.size() && all != null && !all.isEmpty(); k++) {
            tried++;
            int relation = kinds.get(k)[1];
            Bounds behind;
            if (relation < 0) {
                behind = assigned(before, all, kinds.get(k)[0], sums.get(k));
                p++;
            } else {
                Bounds holds = met(before, all, sums.get(k), RELATIONS[relation]);
                Bounds fails = met(before, all, sums.get(k), OPPOSITES[relation]);
                EDGE.due("bounds at " + (p + 1) + " of " + text, found(p + 1).text(), holds.text());
                EDGE.due("bounds at " + (p + 2) + " of " + text, found(p + 2).text(), fails.text());
                behind = Bounds.join(holds, fails);
                p += 3;
            }
            before = found(p);
            EDGE.due("bounds at " + p + " of " + text, before.text(), behind.text());
            all = valuesOf(before);
            if (all != null) {
                EDGE.due("the greatest values at " + p + " of " + text, before.text(), boundsOf(all).text());
            }
        }
    }

    private static Bounds boundsOf(List<long[]> all) {
        Bounds bounds = new Bounds();
        all.forEach(bounds::add);
        return bounds;
    }
}
