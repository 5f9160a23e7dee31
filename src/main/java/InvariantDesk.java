import java.util.Arrays;

/**
 * Reads a program, bounds what its variables can be at each of its points, checks claims about that,
 * and runs the program. What each call answers is told in the document that README.md names.
 */
public final class InvariantDesk {
    public static final int NONE = -1;

    private static final int MOST_BYTES = 16400;
    private static final int MOST_POINTS = 250;
    private static final int MOST_NUMBERS = 12;
    private static final int MOST_ARRAYS = 6;
    private static final int MOST_PLACES = 64;
    private static final int MOST_DEPTH = 60;
    private static final int MOST_INPUTS = 1000;
    private static final int MOST_STEPS = 2000;
    private static final int MOST_WORK = 4000;
    /** Stands far above what any loop with it can need. */
    private static final int MANY = 1000000;
    /** A SUM keeps at most two values waiting for each level that it is deep. */
    private static final int STACK = 2 * MOST_DEPTH + 4;
    private static final long LEAST_INT = -2147483648L;
    private static final long GREATEST_INT = 2147483647L;
    private static final long NO_BOUND = -(1L << 40);

    private static final int FAULTY = 1;
    private static final int MISTAKEN = 2;
    private static final int TOO_MUCH = 3;

    private final byte[] fed = new byte[MOST_BYTES];
    private int fedBytes;
    private final Program program = new Program();
    private final Effect effect = new Effect(program);
    private final Analysis analysis = new Analysis(program, effect);
    private final Machine machine = new Machine(program);
    private final State[] claims = new State[MOST_POINTS];
    private boolean ended;
    private int wrong;
    private int wrongPlace;
    /** Whether a claim is less than what was analysed. */
    private boolean claimed;
    private boolean judged;
    private int verdict;
    private byte[] line = new byte[64];
    private int lineBytes;

    public InvariantDesk() {
        analysis.analyse();
        claimAsAnalysed();
    }

    public int feed(int a, int b, int c, int d, int e) {
        if (fedBytes + 20 > MOST_BYTES) {
            return NONE;
        }
        feedWord(a);
        feedWord(b);
        feedWord(c);
        feedWord(d);
        feedWord(e);
        return fedBytes;
    }

    private void feedWord(int word) {
        for (int shift = 24; shift >= 0; shift -= 8) {
            fed[fedBytes] = (byte) (word >>> shift);
            fedBytes++;
        }
    }

    public int end(int n) {
        if (n < 0 || n > fedBytes) {
            return NONE;
        }
        Tokens tokens = new Tokens(fed, n);
        tokens.scan();
        Source source = new Source(n);
        Parser parser = new Parser(tokens, source);
        int fault = parser.parse();
        wrong = 0;
        wrongPlace = 0;
        int answer = 0;
        program.clear();
        if (fault != NONE) {
            answer = FAULTY;
            wrongPlace = fault;
        } else if (!program.lay(tokens, source)) {
            answer = MISTAKEN;
            wrong = program.wrong;
            wrongPlace = program.wrongPlace;
            program.clear();
        }
        analysis.analyse();
        claimAsAnalysed();
        machine.forget();
        fedBytes = 0;
        ended = true;
        return analysis.tooMuch ? TOO_MUCH : answer;
    }

    private void claimAsAnalysed() {
        for (int p = 0; p < program.count; p++) {
            if (claims[p] == null) {
                claims[p] = new State();
            }
            claims[p].copy(analysis.known[p]);
        }
        claimed = false;
        judged = false;
    }

    private void noteClaim() {
        claimed = true;
        judged = false;
    }

    public int told(int what) {
        if (!ended) {
            return NONE;
        }
        switch (what) {
            case 0:
                return wrong;
            case 1:
                return wrongPlace;
            case 2:
                return analysis.work;
            default:
                return NONE;
        }
    }

    public int points() {
        return program.count;
    }

    public int point(int p, int what) {
        if (!isPoint(p)) {
            return NONE;
        }
        switch (what) {
            case 0:
                return program.statements[p].kind;
            case 1:
                return program.statements[p].place;
            case 2:
                return analysis.alarms[p];
            case 3:
                return program.numbersAt(p);
            case 4:
                return program.arraysAt(p);
            case 5:
                return analysis.known[p].nothing ? 0 : 1;
            case 6:
                return claims[p].nothing ? 0 : 1;
            default:
                return NONE;
        }
    }

    private boolean isPoint(int p) {
        return p >= 0 && p < program.count;
    }

    private boolean isBound(int p, int x, int s, int y, int t) {
        if (!isPoint(p)) {
            return false;
        }
        int numbers = program.numbersAt(p);
        boolean slots = x >= 0 && x < numbers && y >= 0 && y < numbers;
        boolean signs = (s == 1 || s == -1) && (t == 1 || t == -1);
        return slots && signs && (x != y || s == t);
    }

    private boolean isArray(int p, int a) {
        return isPoint(p) && a >= 0 && a < program.arraysAt(p);
    }

    private static int signed(int slot, int sign) {
        return sign < 0 ? 2 * slot + 1 : 2 * slot;
    }

    public long bound(boolean claims, int p, int x, int s, int y, int t) {
        if (!isBound(p, x, s, y, t)) {
            return NO_BOUND;
        }
        State state = stateAt(claims, p);
        return state.nothing ? NO_BOUND : state.greatest(signed(x, s), signed(y, t));
    }

    private State stateAt(boolean byClaims, int p) {
        return byClaims ? claims[p] : analysis.known[p];
    }

    public long range(boolean claims, int p, int a, boolean greatest) {
        if (!isArray(p, a)) {
            return NO_BOUND;
        }
        State state = stateAt(claims, p);
        return state.nothing ? NO_BOUND : state.ends[greatest ? 2 * a + 1 : 2 * a];
    }

    public int claim(int p, int x, int s, int y, int t, long c) {
        if (!isBound(p, x, s, y, t)) {
            return NONE;
        }
        State claim = claims[p];
        int v = signed(x, s);
        int w = signed(y, t);
        if (claim.nothing || c >= claim.greatest(v, w)) {
            return 0;
        }
        // c may be anything, so that it is compared before it is reckoned with
        if (c < -claim.greatest(v ^ 1, w ^ 1)) {
            claim.nothing = true;
        } else {
            claim.limit(v, w, c);
            claim.tighten(effect.rows);
        }
        noteClaim();
        return 1;
    }

    public int claimRange(int p, int a, boolean above, int c) {
        if (!isArray(p, a)) {
            return NONE;
        }
        State claim = claims[p];
        int end = above ? 2 * a + 1 : 2 * a;
        if (claim.nothing || (above ? c >= claim.ends[end] : c <= claim.ends[end])) {
            return 0;
        }
        claim.ends[end] = c;
        claim.nothing = claim.ends[2 * a] > claim.ends[2 * a + 1];
        noteClaim();
        return 1;
    }

    public int claimNothing(int p) {
        if (!isPoint(p)) {
            return NONE;
        }
        if (claims[p].nothing) {
            return 0;
        }
        claims[p].nothing = true;
        noteClaim();
        return 1;
    }

    public int unclaim() {
        int less = 0;
        for (int p = 0; p < program.count; p++) {
            if (!claims[p].same(analysis.known[p])) {
                less++;
            }
        }
        claimAsAnalysed();
        return less;
    }

    public int inductive() {
        return judge();
    }

    /** Kept until claims change, as each run asks for it. */
    private int judge() {
        if (judged) {
            return verdict;
        }
        judged = true;
        verdict = NONE;
        if (analysis.tooMuch) {
            verdict = -3;
        } else if (claims[0].nothing) {
            verdict = -2;
        }
        for (int p = 0; p < program.count - 1 && verdict == NONE; p++) {
            if (!claims[p].nothing && !leadsToClaims(p)) {
                verdict = p;
            }
        }
        return verdict;
    }

    private boolean leadsToClaims(int p) {
        boolean right = true;
        if (program.statements[p].asks()) {
            effect.split(p, claims[p]);
        } else {
            effect.carry(p, claims[p]);
        }
        if (program.statements[p].forks()) {
            int other = program.other[p];
            effect.fails.keep(program.numbersAt(other), program.arraysAt(other));
            right = effect.fails.within(claims[other]);
        }
        int first = program.first[p];
        effect.holds.keep(program.numbersAt(first), program.arraysAt(first));
        return right && effect.holds.within(claims[first]);
    }

    public int input(int x) {
        return machine.take(x);
    }

    public int drop() {
        int given = machine.given;
        machine.given = 0;
        return given;
    }

    public int run(int steps) {
        if (steps < 0 || steps > MOST_STEPS) {
            return NONE;
        }
        // claims that are as analysed say no more than the analysis, by which each run is tried in any case
        boolean trusted = claimed && judge() == NONE;
        return machine.go(steps, analysis, trusted ? claims : null);
    }

    public int ran(int what) {
        switch (what) {
            case 0:
                return machine.at;
            case 1:
                return machine.done;
            case 2:
                return machine.taken;
            default:
                return NONE;
        }
    }

    public int value(int x) {
        // before a run this is point 0, which has no slots
        boolean there = x >= 0 && x < program.numbersAt(machine.at);
        return there ? machine.values[x] : 0;
    }

    public int place(int a, int i) {
        boolean there = a >= 0 && a < program.arraysAt(machine.at);
        return there && i >= 0 && i < machine.sizes[a] ? machine.places[a * MOST_PLACES + i] : 0;
    }

    public int outside() {
        return machine.outside;
    }

    public int show(boolean claims, int p) {
        if (!isPoint(p)) {
            return NONE;
        }
        State state = stateAt(claims, p);
        lineBytes = 0;
        if (state.nothing) {
            writeText("nothing");
        } else if (state.numbers + state.arrays == 0) {
            writeText("all");
        } else {
            writeNumbers(p, state);
            writePairs(p, state);
            writeArrays(p, state);
        }
        return lineBytes;
    }

    public int shown(int i) {
        return i >= 0 && i < lineBytes ? line[i] & 255 : NONE;
    }

    private void writeNumbers(int p, State state) {
        for (int x = 0; x < state.numbers; x++) {
            writeComma();
            writeName(program.numberName(p, x));
            writeEnds(-state.greatest(2 * x + 1, 2 * x + 1), state.greatest(2 * x, 2 * x));
        }
    }

    private void writePairs(int p, State state) {
        for (int x = 0; x < state.numbers; x++) {
            for (int y = x + 1; y < state.numbers; y++) {
                for (int signs = 0; signs < 4; signs++) {
                    writePair(p, state, 2 * x + signs / 2, 2 * y + signs % 2);
                }
            }
        }
    }

    private void writePair(int p, State state, int v, int w) {
        long most = state.greatest(v, w);
        if (most >= state.greatest(v, v) + state.greatest(w, w)) {
            return;
        }
        writeComma();
        if (v % 2 == 1) {
            writeByte('-');
        }
        writeName(program.numberName(p, v / 2));
        writeText(w % 2 == 1 ? " - " : " + ");
        writeName(program.numberName(p, w / 2));
        writeText(" <= ");
        writeNumber(most);
    }

    private void writeArrays(int p, State state) {
        for (int a = 0; a < state.arrays; a++) {
            writeComma();
            writeName(program.arrayName(p, a));
            writeText("[]");
            writeEnds(state.ends[2 * a], state.ends[2 * a + 1]);
        }
    }

    private void writeComma() {
        if (lineBytes > 0) {
            writeText(", ");
        }
    }

    private void writeEnds(long least, long greatest) {
        writeText(" in ");
        writeNumber(least);
        writeText("..");
        writeNumber(greatest);
    }

    private void writeName(int place) {
        int width = program.tokens.nameWidth(place);
        for (int k = 0; k < width; k++) {
            writeByte(program.tokens.byteAt(place + k));
        }
    }

    private void writeText(String text) {
        for (int k = 0; k < text.length(); k++) {
            writeByte(text.charAt(k));
        }
    }

    private void writeNumber(long number) {
        if (number < 0) {
            writeByte('-');
        }
        long size = number < 0 ? -number : number;
        long unit = 1;
        for (int digits = 1; digits < 12 && size / unit >= 10; digits++) {
            unit *= 10;
        }
        for (long u = unit; u > 0; u /= 10) {
            writeByte((int) ('0' + size / u % 10));
        }
    }

    private void writeByte(int b) {
        if (lineBytes == line.length) {
            line = Arrays.copyOf(line, 2 * lineBytes);
        }
        line[lineBytes] = (byte) b;
        lineBytes++;
    }

    /** The text, cut into tokens. The last one is END, or BAD at the byte at which there is no token. */
    private static final class Tokens {
        static final int END = 0;
        static final int BAD = 1;
        static final int NAME = 2;
        static final int NUMBER = 3;
        static final int FUN = 4;
        static final int VAR = 5;
        static final int IF = 6;
        static final int ELSE = 7;
        static final int WHILE = 8;
        static final int ASSERT = 9;
        static final int RETURN = 10;
        static final int ANY = 11;
        // a sign of one byte has that byte as its kind
        static final int AT_MOST = 128;
        static final int AT_LEAST = 129;
        static final int EQUAL = 130;
        static final int UNEQUAL = 131;
        static final int AND = 132;
        static final int OR = 133;

        private static final String SIGNS = "(){}[],;=+-*/%<>!";
        private static final int MOST_NAME = 30;

        final byte[] text;
        final int[] kinds;
        final int[] places;
        private final int[] widths;
        int count;

        Tokens(byte[] bytes, int n) {
            text = Arrays.copyOf(bytes, n);
            kinds = new int[n + 1];
            places = new int[n + 1];
            widths = new int[n + 1];
        }

        void scan() {
            int i = behindBlanks(0);
            for (int round = 0; round < text.length && i < text.length; round++) {
                int width = widthAt(i);
                int kind = width == 0 ? BAD : kindAt(i, width);
                add(kind, i, width);
                if (kind == BAD) {
                    return;
                }
                i = behindBlanks(i + width);
            }
            add(END, text.length, 0);
        }

        private void add(int kind, int place, int width) {
            kinds[count] = kind;
            places[count] = place;
            widths[count] = width;
            count++;
        }

        int byteAt(int i) {
            return i >= 0 && i < text.length ? text[i] & 255 : NONE;
        }

        private int behindBlanks(int from) {
            boolean remark = false;
            for (int i = from; i < text.length; i++) {
                int b = byteAt(i);
                if (remark) {
                    remark = b != 10;
                } else if (b == '/' && byteAt(i + 1) == '/') {
                    remark = true;
                } else if (b != 9 && b != 10 && b != 13 && b != 32) {
                    return i;
                }
            }
            return text.length;
        }

        private static boolean isLetter(int b) {
            return b >= 'a' && b <= 'z' || b >= 'A' && b <= 'Z' || b == '_';
        }

        private static boolean isDigit(int b) {
            return b >= '0' && b <= '9';
        }

        /** How many bytes the token there has, 0 for none. */
        private int widthAt(int i) {
            int b = byteAt(i);
            if (isLetter(b)) {
                int width = nameWidth(i);
                return width <= MOST_NAME ? width : 0;
            }
            if (isDigit(b)) {
                return numberWidth(i);
            }
            if (signOfTwo(b, byteAt(i + 1)) != BAD) {
                return 2;
            }
            return SIGNS.indexOf((char) b) >= 0 ? 1 : 0;
        }

        int nameWidth(int place) {
            for (int i = place; i < text.length; i++) {
                int b = byteAt(i);
                if (!isLetter(b) && !isDigit(b)) {
                    return i - place;
                }
            }
            return text.length - place;
        }

        private int numberWidth(int place) {
            int width = 0;
            for (int i = place; i < text.length && isDigit(byteAt(i)); i++) {
                width++;
            }
            boolean zeroInFront = width > 1 && byteAt(place) == '0';
            boolean letterBehind = isLetter(byteAt(place + width));
            return zeroInFront || letterBehind || numberAt(place) > GREATEST_INT ? 0 : width;
        }

        /** Reckoned no further when it is too great. */
        long numberAt(int place) {
            long number = 0;
            for (int i = place; i < text.length && isDigit(byteAt(i)) && number <= GREATEST_INT; i++) {
                number = 10 * number + byteAt(i) - '0';
            }
            return number;
        }

        private int kindAt(int i, int width) {
            int b = byteAt(i);
            if (isLetter(b)) {
                return wordAt(i, width);
            }
            if (isDigit(b)) {
                return NUMBER;
            }
            return width == 2 ? signOfTwo(b, byteAt(i + 1)) : b;
        }

        private static int signOfTwo(int b, int c) {
            if (c == '=') {
                switch (b) {
                    case '<':
                        return AT_MOST;
                    case '>':
                        return AT_LEAST;
                    case '=':
                        return EQUAL;
                    case '!':
                        return UNEQUAL;
                    default:
                        return BAD;
                }
            }
            if (b == '&' && c == '&') {
                return AND;
            }
            return b == '|' && c == '|' ? OR : BAD;
        }

        private int wordAt(int i, int width) {
            if (spells(i, width, "fun")) {
                return FUN;
            } else if (spells(i, width, "var")) {
                return VAR;
            } else if (spells(i, width, "if")) {
                return IF;
            } else if (spells(i, width, "else")) {
                return ELSE;
            } else if (spells(i, width, "while")) {
                return WHILE;
            } else if (spells(i, width, "assert")) {
                return ASSERT;
            } else if (spells(i, width, "return")) {
                return RETURN;
            }
            return spells(i, width, "any") ? ANY : NAME;
        }

        private boolean spells(int i, int width, String word) {
            if (width != word.length()) {
                return false;
            }
            for (int k = 0; k < width; k++) {
                if (byteAt(i + k) != word.charAt(k)) {
                    return false;
                }
            }
            return true;
        }

        boolean sameNames(int token, int other) {
            if (widths[token] != widths[other]) {
                return false;
            }
            for (int k = 0; k < widths[token]; k++) {
                if (byteAt(places[token] + k) != byteAt(places[other] + k)) {
                    return false;
                }
            }
            return true;
        }
    }

    /** A statement as it stands in the text; its slots are counted within its function. */
    private static final class Statement {
        static final int END = 0;
        static final int VAR = 1;
        static final int SET = 2;
        static final int STORE = 3;
        static final int CALL = 4;
        static final int IF = 5;
        static final int WHILE = 6;
        static final int ASSERT = 7;
        static final int RETURN = 8;

        final int kind;
        final int index;
        final int place;
        final int numbers;
        final int arrays;
        /** The first thing in it that is wrong wherever the function is called, 0 for none. */
        int wrong;
        int wrongPlace;
        /** The token that is the NAME of what a var brings. */
        int name;
        /** The slot that it changes, NONE for a call without a NAME in front. */
        int slot = NONE;
        /** How many places the array has that it brings or changes, 0 for a number. */
        int size;
        int sum;
        int sums;
        int cond;
        int condEnd;
        int called;
        /** The statements behind its first BLOCK, and behind all of it. */
        int elseAt;
        int after;

        Statement(int kind, int index, int place, int numbers, int arrays) {
            this.kind = kind;
            this.index = index;
            this.place = place;
            this.numbers = numbers;
            this.arrays = arrays;
        }

        boolean asks() {
            return kind == IF || kind == WHILE || kind == ASSERT;
        }

        boolean forks() {
            return kind == IF || kind == WHILE;
        }
    }

    /** What was read: SUMs in the order in which they are reckoned, their forms, CONDs, statements, functions. */
    private static final class Source {
        static final int LITERAL = 1;
        static final int NUMBER = 2;
        static final int ARRAY = 3;
        static final int INPUT = 4;
        static final int NEGATE = 5;
        // + - * / % have their byte as what is done

        static final int LITERAL_PART = -1;
        static final int OTHER_PART = -2;

        static final int END_AND = 134;
        static final int END_OR = 135;

        // of a function: the token that is its NAME, how many parameters it has, the token of the first one that has
        // the name of another one, its first statement, the one behind it, and the return that is its last one
        static final int NAME = 0;
        static final int PARAMETERS = 1;
        static final int TWICE = 2;
        static final int FIRST = 3;
        static final int AFTER = 4;
        static final int GIVES = 5;
        private static final int HEAD = 6;

        /** Three ints each: what is done, and with what. */
        final int[] code;
        int codes;
        /** Of a part: the code behind it, whether its sign is turned to -, its slot or kind. */
        final int[] partEnd;
        final int[] partTurned;
        final int[] partSlot;
        int parts;
        /** Where the code and the parts of a SUM begin; those of the next one are their end. */
        final int[] sumCode;
        final int[] sumPart;
        int sums;
        final int[] condKind;
        final int[] condWith;
        int conds;
        final Statement[] statements;
        int count;
        private final int[] heads;
        int functions;

        Source(int bytes) {
            code = new int[3 * bytes + 3];
            partEnd = new int[bytes + 1];
            partTurned = new int[bytes + 1];
            partSlot = new int[bytes + 1];
            sumCode = new int[bytes + 2];
            sumPart = new int[bytes + 2];
            condKind = new int[bytes + 1];
            condWith = new int[bytes + 1];
            statements = new Statement[bytes / 3 + 2];
            heads = new int[HEAD * (bytes / 9 + 2)];
        }

        void emit(int what, int first, int second) {
            code[3 * codes] = what;
            code[3 * codes + 1] = first;
            code[3 * codes + 2] = second;
            codes++;
        }

        void addPart(int turned, int slot) {
            partEnd[parts] = codes;
            partTurned[parts] = turned;
            partSlot[parts] = slot;
            parts++;
        }

        /** What seemed to be several parts was within one: a product, or the place of an array. */
        void makeWhole(int from, int turned) {
            parts = from;
            addPart(turned, OTHER_PART);
        }

        void openSum() {
            sumCode[sums] = codes;
            sumPart[sums] = parts;
            sums++;
        }

        int addCond(int kind, int with) {
            condKind[conds] = kind;
            condWith[conds] = with;
            conds++;
            return conds - 1;
        }

        /** A run that knows enough jumps from the && or || to behind its end. */
        void endCond(int begin) {
            addCond(condKind[begin] == Tokens.AND ? END_AND : END_OR, 0);
            condWith[begin] = conds;
        }

        Statement addStatement(int kind, int place, int numbers, int arrays) {
            Statement statement = new Statement(kind, count, place, numbers, arrays);
            statement.sum = sums;
            statement.cond = conds;
            statements[count] = statement;
            count++;
            return statement;
        }

        void openFunction(int nameToken) {
            int head = HEAD * functions;
            heads[head + NAME] = nameToken;
            heads[head + PARAMETERS] = 0;
            heads[head + TWICE] = NONE;
            heads[head + FIRST] = count;
            heads[head + GIVES] = NONE;
        }

        void countParameter(boolean twice, int token) {
            int head = HEAD * functions;
            heads[head + PARAMETERS]++;
            if (twice && heads[head + TWICE] == NONE) {
                heads[head + TWICE] = token;
            }
        }

        void giveBy(int statement) {
            heads[HEAD * functions + GIVES] = statement;
        }

        void closeFunction() {
            heads[HEAD * functions + AFTER] = count;
            functions++;
        }

        int head(int function, int what) {
            return heads[HEAD * function + what];
        }

        void finish() {
            sumCode[sums] = codes;
            sumPart[sums] = parts;
            if (functions > 0 && head(functions - 1, GIVES) != NONE) {
                Statement last = statements[head(functions - 1, GIVES)];
                last.wrong = 7;
                last.wrongPlace = last.place;
            }
        }
    }

    /** The vars and parameters that NAMEs mean, in one function, at the place that is being read. */
    private static final class Scope {
        private final Tokens tokens;
        private final int[] names;
        private final int[] slots;
        private final int[] sizes;
        private int count;
        private final int[] starts = new int[MOST_DEPTH + 2];
        int blocks;
        int numbers;
        int arrays;

        Scope(Tokens tokens) {
            this.tokens = tokens;
            int most = tokens.text.length / 2 + 1;
            names = new int[most];
            slots = new int[most];
            sizes = new int[most];
        }

        void openBlock() {
            starts[blocks] = count;
            blocks++;
        }

        void shutBlock() {
            blocks--;
            for (int k = starts[blocks]; k < count; k++) {
                if (sizes[k] == 0) {
                    numbers--;
                } else {
                    arrays--;
                }
            }
            count = starts[blocks];
        }

        /** The innermost, latest one of that name, or NONE. */
        int find(int token) {
            for (int k = count - 1; k >= 0; k--) {
                if (tokens.sameNames(names[k], token)) {
                    return k;
                }
            }
            return NONE;
        }

        boolean isTwice(int token) {
            return blocks > 0 && find(token) >= starts[blocks - 1];
        }

        /** A size of 0 makes a number. */
        void add(int token, int size) {
            names[count] = token;
            sizes[count] = size;
            if (size == 0) {
                slots[count] = numbers;
                numbers++;
            } else {
                slots[count] = arrays;
                arrays++;
            }
            count++;
        }

        boolean isArray(int found) {
            return sizes[found] > 0;
        }

        int slotOf(int found) {
            return slots[found];
        }

        int sizeOf(int found) {
            return sizes[found];
        }
    }

    /**
     * Reads the tokens by goals: what the grammar still asks for stands on a stack, the next goal on top. A goal is
     * a token, or a piece of the grammar, for which other goals are put; it bears what it must remember with it.
     */
    private static final class Parser {
        private static final int MORE_FUNCTIONS = 140;
        private static final int FUNCTION = 141;
        private static final int FUNCTION_NAME = 142;
        private static final int PARAMETERS = 143;
        private static final int PARAMETER = 144;
        private static final int MORE_PARAMETERS = 145;
        private static final int FUNCTION_DONE = 146;
        private static final int BLOCK = 147;
        private static final int STATEMENTS = 148;
        private static final int STATEMENT = 149;
        private static final int VAR_NAME = 150;
        private static final int VAR_REST = 151;
        private static final int VAR_SIZE = 152;
        private static final int VAR_DONE = 153;
        private static final int ARGUMENTS = 154;
        private static final int MORE_ARGUMENTS = 155;
        private static final int CALL_DONE = 156;
        private static final int COND_DONE = 157;
        private static final int ELSE_PART = 158;
        private static final int BLOCKS_DONE = 159;
        private static final int RETURN_DONE = 160;
        private static final int WHOLE_SUM = 161;
        private static final int SUM = 162;
        private static final int MORE_TERMS = 163;
        private static final int TERM = 164;
        private static final int MORE_FACTORS = 165;
        private static final int FACTOR = 166;
        private static final int OPERATE = 167;
        private static final int TAKE_PLACE = 168;
        private static final int MAKE_WHOLE = 169;
        private static final int LEAVE = 170;
        private static final int COND = 171;
        private static final int MORE_BOTHS = 172;
        private static final int BOTH = 173;
        private static final int MORE_TESTS = 174;
        private static final int TEST = 175;
        private static final int RELATION = 176;
        private static final int COMPARED = 177;
        private static final int TURNED = 178;
        private static final int JOINED = 179;

        /** More goals than wait at once for one level of depth. */
        private static final int LEVEL = 12;

        private final Tokens tokens;
        private final Source source;
        private final Scope scope;
        private final int[] goals;
        private int waiting;
        private int next;
        private int depth;
        private int fault = NONE;
        private Statement now;
        /** The ifs and whiles whose BLOCKs are being read. */
        private final int[] open = new int[MOST_DEPTH + 2];
        private int opened;
        private int relation;
        private int callPlace;
        /** Whether something is wrong in a call before its SUMs are told. */
        private boolean callSettled;

        Parser(Tokens tokens, Source source) {
            this.tokens = tokens;
            this.source = source;
            scope = new Scope(tokens);
            goals = new int[LEVEL * (Math.min(tokens.text.length, MOST_DEPTH) + 3)];
        }

        /** The place of the fault, or NONE. */
        int parse() {
            ask(MORE_FUNCTIONS);
            ask(FUNCTION);
            for (int round = 0; round < MANY && waiting > 0 && fault == NONE; round++) {
                waiting--;
                int goal = goals[waiting] & 255;
                int with = goals[waiting] >> 8;
                if (goal < MORE_FUNCTIONS) {
                    take(goal);
                } else if (goal < BLOCK) {
                    readFunction(goal);
                } else if (goal < STATEMENT) {
                    readBlock(goal, with);
                } else if (goal == STATEMENT) {
                    beginStatement();
                } else if (goal < WHOLE_SUM) {
                    readStatement(goal);
                } else if (goal == FACTOR) {
                    readFactor(with);
                } else if (goal < COND) {
                    readSum(goal, with);
                } else {
                    readCond(goal, with);
                }
            }
            source.finish();
            return fault;
        }

        private void ask(int goal) {
            askWith(goal, 0);
        }

        private void askWith(int goal, int with) {
            goals[waiting] = goal + (with << 8);
            waiting++;
        }

        private int kind() {
            return tokens.kinds[next];
        }

        private int kindBehind(int more) {
            return next + more < tokens.count ? tokens.kinds[next + more] : Tokens.END;
        }

        private int here() {
            return tokens.places[next];
        }

        private void refuse() {
            if (fault == NONE) {
                fault = here();
            }
        }

        private void take(int kind) {
            if (fault == NONE && kind() == kind) {
                next++;
            } else {
                refuse();
            }
        }

        private boolean enter() {
            if (depth == MOST_DEPTH) {
                refuse();
                return false;
            }
            depth++;
            return true;
        }

        private void note(int wrong, int place) {
            if (now.wrong == 0) {
                noteFirst(wrong, place);
            }
        }

        private void noteFirst(int wrong, int place) {
            now.wrong = wrong;
            now.wrongPlace = place;
        }

        private void readFunction(int goal) {
            switch (goal) {
                case MORE_FUNCTIONS:
                    if (kind() != Tokens.END) {
                        ask(MORE_FUNCTIONS);
                        ask(FUNCTION);
                    }
                    break;
                case FUNCTION:
                    ask(FUNCTION_DONE);
                    askWith(BLOCK, 1);
                    ask(PARAMETERS);
                    ask('(');
                    ask(FUNCTION_NAME);
                    take(Tokens.FUN);
                    break;
                case FUNCTION_NAME:
                    source.openFunction(next);
                    scope.openBlock();
                    take(Tokens.NAME);
                    break;
                case PARAMETERS:
                    if (kind() == ')') {
                        next++;
                    } else {
                        ask(MORE_PARAMETERS);
                        ask(PARAMETER);
                    }
                    break;
                case PARAMETER:
                    if (kind() == Tokens.NAME) {
                        source.countParameter(scope.isTwice(next), next);
                        scope.add(next, 0);
                    }
                    take(Tokens.NAME);
                    break;
                case MORE_PARAMETERS:
                    if (kind() == ',') {
                        next++;
                        ask(MORE_PARAMETERS);
                        ask(PARAMETER);
                    } else {
                        take(')');
                    }
                    break;
                default:
                    source.closeFunction();
                    break;
            }
        }

        private void readBlock(int goal, int ofFunction) {
            if (goal == BLOCK) {
                if (enter()) {
                    // the parameters are in the BLOCK of their function
                    if (ofFunction == 0) {
                        scope.openBlock();
                    }
                    ask(STATEMENTS);
                    take('{');
                }
            } else if (kind() == '}') {
                next++;
                depth--;
                scope.shutBlock();
            } else {
                ask(STATEMENTS);
                ask(STATEMENT);
            }
        }

        private void begin(int kind) {
            now = source.addStatement(kind, here(), scope.numbers, scope.arrays);
        }

        private void beginStatement() {
            switch (kind()) {
                case Tokens.VAR:
                    begin(Statement.VAR);
                    next++;
                    ask(VAR_REST);
                    ask(VAR_NAME);
                    break;
                case Tokens.NAME:
                    beginNamed();
                    break;
                case Tokens.IF:
                    beginBlocks(Statement.IF, ELSE_PART);
                    break;
                case Tokens.WHILE:
                    beginBlocks(Statement.WHILE, BLOCKS_DONE);
                    break;
                case Tokens.ASSERT:
                    begin(Statement.ASSERT);
                    next++;
                    ask(';');
                    beginCond();
                    break;
                case Tokens.RETURN:
                    begin(Statement.RETURN);
                    next++;
                    ask(RETURN_DONE);
                    ask(';');
                    ask(WHOLE_SUM);
                    break;
                default:
                    refuse();
                    break;
            }
        }

        private void beginBlocks(int kind, int behindFirst) {
            begin(kind);
            open[opened] = now.index;
            opened++;
            next++;
            ask(behindFirst);
            ask(BLOCK);
            beginCond();
        }

        private void beginCond() {
            ask(')');
            ask(COND_DONE);
            ask(COND);
            take('(');
        }

        private void beginNamed() {
            switch (kindBehind(1)) {
                case '(':
                    begin(Statement.CALL);
                    beginCall();
                    break;
                case '=':
                    boolean call = kindBehind(2) == Tokens.NAME && kindBehind(3) == '(';
                    begin(call ? Statement.CALL : Statement.SET);
                    now.slot = numberMeant();
                    next += 2;
                    if (call) {
                        beginCall();
                    } else {
                        ask(';');
                        ask(WHOLE_SUM);
                    }
                    break;
                case '[':
                    begin(Statement.STORE);
                    int found = arrayMeant();
                    now.slot = found == NONE ? 0 : scope.slotOf(found);
                    now.size = found == NONE ? 1 : scope.sizeOf(found);
                    next += 2;
                    ask(';');
                    ask(WHOLE_SUM);
                    ask('=');
                    ask(']');
                    ask(WHOLE_SUM);
                    break;
                default:
                    next++;
                    refuse();
                    break;
            }
        }

        private void beginCall() {
            callPlace = here();
            now.called = functionMeant();
            if (now.called == NONE) {
                note(4, callPlace);
            }
            callSettled = now.wrong != 0;
            next += 2;
            ask(CALL_DONE);
            ask(';');
            ask(ARGUMENTS);
        }

        private int functionMeant() {
            for (int f = source.functions - 1; f >= 0; f--) {
                if (tokens.sameNames(source.head(f, Source.NAME), next)) {
                    return f;
                }
            }
            return NONE;
        }

        /** What is noted stands for the slot of a NAME that means no number. */
        private int numberMeant() {
            int found = scope.find(next);
            if (found == NONE) {
                note(1, here());
            } else if (scope.isArray(found)) {
                note(3, here());
            }
            return found == NONE ? 0 : scope.slotOf(found);
        }

        private int arrayMeant() {
            int found = scope.find(next);
            if (found == NONE) {
                note(1, here());
            } else if (!scope.isArray(found)) {
                note(3, here());
                found = NONE;
            }
            return found;
        }

        private void readStatement(int goal) {
            switch (goal) {
                case VAR_NAME:
                    if (scope.isTwice(next)) {
                        note(2, here());
                    }
                    now.name = next;
                    take(Tokens.NAME);
                    break;
                case VAR_REST:
                    readVarRest();
                    break;
                case VAR_SIZE:
                    long size = tokens.numberAt(here());
                    if (size < 1 || size > MOST_PLACES) {
                        note(9, here());
                    }
                    now.size = size < 1 ? 1 : (int) size;
                    take(Tokens.NUMBER);
                    break;
                case VAR_DONE:
                    scope.add(now.name, now.size);
                    break;
                case ARGUMENTS:
                    if (kind() == ')') {
                        next++;
                    } else {
                        ask(MORE_ARGUMENTS);
                        ask(WHOLE_SUM);
                    }
                    break;
                case MORE_ARGUMENTS:
                    if (kind() == ',') {
                        next++;
                        ask(MORE_ARGUMENTS);
                        ask(WHOLE_SUM);
                    } else {
                        take(')');
                    }
                    break;
                case CALL_DONE:
                    finishCall();
                    break;
                default:
                    finishStatement(goal);
                    break;
            }
        }

        private void readVarRest() {
            int kind = kind();
            if (kind != ';' && kind != '=' && kind != '[') {
                refuse();
                return;
            }
            next++;
            ask(VAR_DONE);
            if (kind == '=') {
                ask(';');
                ask(WHOLE_SUM);
            } else if (kind == '[') {
                ask(';');
                ask(']');
                ask(VAR_SIZE);
            }
        }

        /** 5 and 6 lie at the function's NAME, so they come before what is wrong in the SUMs. */
        private void finishCall() {
            if (callSettled) {
                return;
            }
            if (now.sums != source.head(now.called, Source.PARAMETERS)) {
                noteFirst(5, callPlace);
            } else if (now.slot != NONE && source.head(now.called, Source.GIVES) == NONE) {
                noteFirst(6, callPlace);
            }
        }

        private void finishStatement(int goal) {
            if (goal == COND_DONE) {
                now.condEnd = source.conds;
            } else if (goal == RETURN_DONE) {
                if (scope.blocks == 1 && kind() == '}') {
                    source.giveBy(now.index);
                } else {
                    noteFirst(6, now.place);
                }
            } else if (opened > 0) {
                Statement outer = source.statements[open[opened - 1]];
                if (goal == ELSE_PART) {
                    outer.elseAt = source.count;
                    ask(BLOCKS_DONE);
                    if (kind() == Tokens.ELSE) {
                        next++;
                        ask(BLOCK);
                    }
                } else {
                    outer.after = source.count;
                    opened--;
                }
            }
        }

        /** What goes along is 1 where signs are turned; for what may become whole, the first part within it too. */
        private void readSum(int goal, int with) {
            switch (goal) {
                case WHOLE_SUM:
                    source.openSum();
                    now.sums++;
                    askWith(SUM, with);
                    break;
                case SUM:
                    if (enter()) {
                        ask(LEAVE);
                        askWith(MORE_TERMS, with);
                        askWith(TERM, with);
                    }
                    break;
                case MORE_TERMS:
                    if (kind() == '+' || kind() == '-') {
                        askWith(MORE_TERMS, with);
                        askWith(OPERATE, kind());
                        askWith(TERM, kind() == '+' ? with : 1 - with);
                        next++;
                    }
                    break;
                case TERM:
                    askWith(MORE_FACTORS, 2 * source.parts + with);
                    askWith(FACTOR, with);
                    break;
                case MORE_FACTORS:
                    if (kind() == '*' || kind() == '/' || kind() == '%') {
                        askWith(MORE_FACTORS, with);
                        askWith(MAKE_WHOLE, with);
                        askWith(OPERATE, kind());
                        ask(FACTOR);
                        next++;
                    }
                    break;
                case OPERATE:
                    source.emit(with, 0, 0);
                    break;
                case TAKE_PLACE:
                    source.emit(Source.ARRAY, with / 128, with % 128);
                    break;
                case MAKE_WHOLE:
                    source.makeWhole(with / 2, with % 2);
                    break;
                default:
                    depth--;
                    break;
            }
        }

        private void readFactor(int turned) {
            switch (kind()) {
                case Tokens.NUMBER:
                    source.emit(Source.LITERAL, (int) tokens.numberAt(here()), 0);
                    source.addPart(turned, Source.LITERAL_PART);
                    next++;
                    break;
                case Tokens.NAME:
                    readNamed(turned);
                    break;
                case Tokens.ANY:
                    readAny(turned);
                    break;
                case '-':
                    next++;
                    if (enter()) {
                        ask(LEAVE);
                        askWith(OPERATE, Source.NEGATE);
                        askWith(FACTOR, 1 - turned);
                    }
                    break;
                case '(':
                    next++;
                    ask(')');
                    askWith(SUM, turned);
                    break;
                default:
                    refuse();
                    break;
            }
        }

        private void readNamed(int turned) {
            if (kindBehind(1) == '[') {
                int found = arrayMeant();
                askWith(MAKE_WHOLE, 2 * source.parts + turned);
                // an array that is too large is told as wrong, so its size need not fit
                askWith(TAKE_PLACE, found == NONE ? 1 : 128 * scope.slotOf(found) + scope.sizeOf(found) % 128);
                ask(']');
                ask(SUM);
                next += 2;
            } else {
                int slot = numberMeant();
                source.emit(Source.NUMBER, slot, 0);
                source.addPart(turned, slot);
                next++;
            }
        }

        private void readAny(int turned) {
            long least = LEAST_INT;
            long greatest = GREATEST_INT;
            next++;
            if (kind() == '(') {
                next++;
                int place = here();
                least = readLimit();
                take(',');
                greatest = readLimit();
                take(')');
                if (least > greatest) {
                    note(8, place);
                }
            }
            source.emit(Source.INPUT, (int) least, (int) greatest);
            source.addPart(turned, Source.OTHER_PART);
        }

        private long readLimit() {
            boolean minus = kind() == '-';
            if (minus) {
                take('-');
            }
            long limit = kind() == Tokens.NUMBER ? tokens.numberAt(here()) : 0;
            take(Tokens.NUMBER);
            return minus ? -limit : limit;
        }

        private void readCond(int goal, int with) {
            switch (goal) {
                case COND:
                    if (enter()) {
                        ask(LEAVE);
                        ask(MORE_BOTHS);
                        ask(BOTH);
                    }
                    break;
                case MORE_BOTHS:
                    if (kind() == Tokens.OR) {
                        next++;
                        ask(MORE_BOTHS);
                        askWith(JOINED, source.addCond(Tokens.OR, 0));
                        ask(BOTH);
                    }
                    break;
                case BOTH:
                    ask(MORE_TESTS);
                    ask(TEST);
                    break;
                case MORE_TESTS:
                    if (kind() == Tokens.AND) {
                        next++;
                        ask(MORE_TESTS);
                        askWith(JOINED, source.addCond(Tokens.AND, 0));
                        ask(TEST);
                    }
                    break;
                case TEST:
                    readTest();
                    break;
                case RELATION:
                    readRelation();
                    break;
                case COMPARED:
                    source.addCond(relation, source.sums - 2);
                    break;
                case TURNED:
                    source.addCond('!', 0);
                    break;
                default:
                    source.endCond(with);
                    break;
            }
        }

        private void readTest() {
            if (kind() == '!') {
                next++;
                if (enter()) {
                    ask(LEAVE);
                    ask(TURNED);
                    ask(TEST);
                }
            } else if (kind() == '[') {
                next++;
                ask(']');
                ask(COND);
            } else {
                ask(COMPARED);
                askWith(WHOLE_SUM, 1);
                ask(RELATION);
                ask(WHOLE_SUM);
            }
        }

        private void readRelation() {
            int kind = kind();
            boolean unequal = kind == '<' || kind == '>' || kind == Tokens.UNEQUAL;
            if (unequal || kind == Tokens.AT_MOST || kind == Tokens.AT_LEAST || kind == Tokens.EQUAL) {
                relation = kind;
                next++;
            } else {
                refuse();
            }
        }
    }

    /** The points, each call with the statements of its function behind it, and where a run goes from each. */
    private static final class Program {
        private static final int NAMES = MOST_NUMBERS + MOST_ARRAYS;

        Tokens tokens = new Tokens(new byte[0], 0);
        Source source = new Source(0);
        int count;
        final Statement[] statements = new Statement[MOST_POINTS];
        /** How many slots those have that called the function. */
        final int[] numberBase = new int[MOST_POINTS];
        final int[] arrayBase = new int[MOST_POINTS];
        /** The point of the call, and of the statement, in whose BLOCK a point is. */
        private final int[] caller = new int[MOST_POINTS];
        private final int[] owner = new int[MOST_POINTS];
        /** The points behind a statement's first BLOCK, and behind all of it. */
        final int[] elseAt = new int[MOST_POINTS];
        final int[] after = new int[MOST_POINTS];
        /** Where a run goes when a COND holds (or without one), and when it fails. */
        final int[] first = new int[MOST_POINTS];
        final int[] other = new int[MOST_POINTS];
        private final int[] behind = new int[MOST_POINTS];
        private final int[] names = new int[NAMES * MOST_POINTS];
        private final int[] open = new int[MOST_POINTS];
        private final boolean[] inElse = new boolean[MOST_POINTS];
        private int opened;
        private int calling;
        int wrong;
        int wrongPlace;

        Program() {
            clear();
        }

        void clear() {
            statements[0] = new Statement(Statement.END, 0, 0, 0, 0);
            numberBase[0] = 0;
            arrayBase[0] = 0;
            count = 1;
        }

        int numbersAt(int p) {
            return numberBase[p] + statements[p].numbers;
        }

        int arraysAt(int p) {
            return arrayBase[p] + statements[p].arrays;
        }

        int numberName(int p, int x) {
            return names[NAMES * p + x];
        }

        int arrayName(int p, int a) {
            return names[NAMES * p + MOST_NUMBERS + a];
        }

        /** The slot that takes what a return gives, or NONE. */
        int taker(int p) {
            int call = caller[p];
            boolean taken = call != NONE && statements[call].slot != NONE;
            return taken ? numberBase[call] + statements[call].slot : NONE;
        }

        /** Lays out all points; false when something is wrong, which it notes. */
        boolean lay(Tokens itsTokens, Source itsSource) {
            tokens = itsTokens;
            source = itsSource;
            count = 0;
            opened = 0;
            calling = NONE;
            wrong = 0;
            int main = source.functions - 1;
            if (source.head(main, Source.PARAMETERS) > 0) {
                note(7, tokens.places[source.head(main, Source.NAME)]);
            }
            int next = source.head(main, Source.FIRST);
            for (int round = 0; round < MANY && wrong == 0; round++) {
                int limit = opened == 0 ? source.head(main, Source.AFTER) : limitOf(open[opened - 1]);
                if (next < limit) {
                    next = layStatement(source.statements[next]);
                } else if (opened > 0) {
                    next = shutBlock(next);
                } else {
                    layEnd();
                    link();
                    return true;
                }
            }
            return false;
        }

        private void note(int what, int place) {
            wrong = what;
            wrongPlace = place;
        }

        private int limitOf(int p) {
            Statement statement = statements[p];
            if (statement.kind == Statement.CALL) {
                return source.head(statement.called, Source.AFTER);
            }
            boolean firstOfTwo = statement.kind == Statement.IF && !inElse[opened - 1];
            return firstOfTwo ? statement.elseAt : statement.after;
        }

        /** The statement to lay behind the BLOCK. */
        private int shutBlock(int next) {
            int p = open[opened - 1];
            Statement statement = statements[p];
            if (statement.kind == Statement.IF && !inElse[opened - 1]) {
                inElse[opened - 1] = true;
                elseAt[p] = count;
                return next;
            }
            after[p] = count;
            opened--;
            if (statement.kind == Statement.CALL) {
                calling = caller[p];
                return statement.index + 1;
            }
            return next;
        }

        /** The statement to lay next. */
        private int layStatement(Statement statement) {
            int p = count;
            findWrong(statement);
            if (wrong != 0) {
                return 0;
            }
            statements[p] = statement;
            numberBase[p] = calling == NONE ? 0 : numbersAt(calling);
            arrayBase[p] = calling == NONE ? 0 : arraysAt(calling);
            caller[p] = calling;
            owner[p] = opened == 0 ? NONE : open[opened - 1];
            after[p] = p + 1;
            count++;
            layNames(p);
            if (statement.forks() || statement.kind == Statement.CALL) {
                open[opened] = p;
                inElse[opened] = false;
                opened++;
            }
            if (statement.kind == Statement.CALL) {
                calling = p;
                return source.head(statement.called, Source.FIRST);
            }
            return statement.index + 1;
        }

        private void findWrong(Statement statement) {
            if (count == MOST_POINTS - 1) {
                note(11, statement.place);
                return;
            }
            if (statement.wrong != 0) {
                note(statement.wrong, statement.wrongPlace);
                return;
            }
            int numbers = statement.numbers + (calling == NONE ? 0 : numbersAt(calling));
            int arrays = statement.arrays + (calling == NONE ? 0 : arraysAt(calling));
            if (statement.kind == Statement.CALL) {
                int twice = source.head(statement.called, Source.TWICE);
                if (twice != NONE) {
                    note(2, tokens.places[twice]);
                } else if (numbers + source.head(statement.called, Source.PARAMETERS) > MOST_NUMBERS) {
                    note(10, statement.place);
                }
            } else if (statement.kind == Statement.VAR && statement.size == 0 && numbers == MOST_NUMBERS) {
                note(10, statement.place);
            } else if (statement.kind == Statement.VAR && statement.size > 0 && arrays == MOST_ARRAYS) {
                note(13, statement.place);
            }
        }

        /** Names are those of the point before, with what that one brought; names of slots that are gone do no harm. */
        private void layNames(int p) {
            if (p == 0) {
                return;
            }
            int from = NAMES * (p - 1);
            System.arraycopy(names, from, names, NAMES * p, NAMES);
            Statement before = statements[p - 1];
            if (before.kind == Statement.VAR) {
                int slot = before.size == 0 ? numbersAt(p - 1) : MOST_NUMBERS + arraysAt(p - 1);
                names[NAMES * p + slot] = tokens.places[before.name];
            } else if (before.kind == Statement.CALL) {
                // behind the function's NAME: a bracket, then parameters with commas between
                int parameter = source.head(before.called, Source.NAME) + 2;
                for (int k = 0; k < before.sums; k++) {
                    names[NAMES * p + numbersAt(p - 1) + k] = tokens.places[parameter + 2 * k];
                }
            }
        }

        private void layEnd() {
            statements[count] = new Statement(Statement.END, 0, 0, 0, 0);
            numberBase[count] = 0;
            arrayBase[count] = 0;
            count++;
        }

        private void link() {
            for (int p = 0; p < count - 1; p++) {
                Statement statement = statements[p];
                behind[p] = after[p] < blockEnd(p) ? after[p] : behindBlock(owner[p]);
                first[p] = behind[p];
                other[p] = behind[p];
                boolean isIf = statement.kind == Statement.IF;
                if (p + 1 < (isIf ? elseAt[p] : after[p])) {
                    first[p] = p + 1;
                } else if (statement.kind == Statement.WHILE) {
                    first[p] = p;
                }
                if (isIf && elseAt[p] < after[p]) {
                    other[p] = elseAt[p];
                }
            }
        }

        private int blockEnd(int p) {
            int outer = owner[p];
            if (outer == NONE) {
                return count;
            }
            boolean firstOfTwo = statements[outer].kind == Statement.IF && p < elseAt[outer];
            return firstOfTwo ? elseAt[outer] : after[outer];
        }

        private int behindBlock(int outer) {
            if (outer == NONE) {
                return count - 1;
            }
            return statements[outer].kind == Statement.WHILE ? outer : behind[outer];
        }
    }

    /**
     * What is known at a point. V(2 x) is the number of slot x, and V(2 x + 1) is it turned round, so that V(v ^ 1) is
     * -V(v), and each bound of an octagon is the greatest value of a sum V(v) + V(w), or of a difference V(j) - V(i).
     */
    private static final class State {
        private static final int CELLS = 2 * MOST_NUMBERS * (MOST_NUMBERS + 1);
        /** Where the cells of each i begin: at the square of i + 1, halved. */
        private static final int[] ROW = {
            0, 2, 4, 8, 12, 18, 24, 32, 40, 50, 60, 72, 84, 98, 112, 128, 144, 162, 180, 200, 220, 242, 264, 288};
        /** How many cells are worked with beside these, by tighten(). */
        static final int ROWS = 4 * MOST_NUMBERS;

        boolean nothing;
        int numbers;
        int arrays;
        /** The greatest value of V(j) - V(i), for each i and each j up to i | 1: the others are V(i ^ 1) - V(j ^ 1). */
        private final long[] most = new long[CELLS];
        /** The least and the greatest one of each array. */
        final long[] ends = new long[2 * MOST_ARRAYS];
        /** The slots, a bit each, whose bounds were made less since all were tight. */
        private int loose;

        private static int cell(int i, int j) {
            return j <= (i | 1) ? ROW[i] + j : ROW[j ^ 1] + (i ^ 1);
        }

        private static long greatestOf(int v) {
            return v % 2 == 0 ? GREATEST_INT : -LEAST_INT;
        }

        private int cells() {
            return 2 * numbers * (numbers + 1);
        }

        void begin() {
            nothing = false;
            numbers = 0;
            arrays = 0;
            loose = 0;
        }

        void copy(State from) {
            nothing = from.nothing;
            numbers = from.numbers;
            arrays = from.arrays;
            loose = from.loose;
            if (!nothing) {
                System.arraycopy(from.most, 0, most, 0, cells());
                System.arraycopy(from.ends, 0, ends, 0, 2 * arrays);
            }
        }

        /** The slots that came last are left out; the bounds of the others, being tight, stay. */
        void keep(int itsNumbers, int itsArrays) {
            numbers = itsNumbers;
            arrays = itsArrays;
        }

        /** Of V(v) + V(w), of V(v) for v = w. */
        long greatest(int v, int w) {
            long bound = most[v <= (w | 1) ? ROW[w ^ 1] + v : ROW[v ^ 1] + w];
            return v == w ? bound / 2 : bound;
        }

        void limit(int v, int w, long c) {
            int cell = cell(w ^ 1, v);
            long bound = v == w ? 2 * c : c;
            if (bound < most[cell]) {
                most[cell] = bound;
                loose |= 1 << (v / 2) | 1 << (w / 2);
            }
        }

        void loosenAll() {
            loose = (1 << numbers) - 1;
        }

        boolean within(State other) {
            if (nothing || other.nothing) {
                return nothing;
            }
            for (int k = 0; k < cells(); k++) {
                if (most[k] > other.most[k]) {
                    return false;
                }
            }
            for (int a = 0; a < arrays; a++) {
                if (ends[2 * a] < other.ends[2 * a] || ends[2 * a + 1] > other.ends[2 * a + 1]) {
                    return false;
                }
            }
            return true;
        }

        boolean same(State other) {
            return within(other) && other.within(this);
        }

        void join(State other) {
            if (other.nothing) {
                return;
            }
            if (nothing) {
                copy(other);
                return;
            }
            for (int k = 0; k < cells(); k++) {
                most[k] = Math.max(most[k], other.most[k]);
            }
            for (int a = 0; a < arrays; a++) {
                ends[2 * a] = Math.min(ends[2 * a], other.ends[2 * a]);
                ends[2 * a + 1] = Math.max(ends[2 * a + 1], other.ends[2 * a + 1]);
            }
        }

        /** Each bound that the other one does not keep to becomes as great as it can be. */
        void widen(State other) {
            for (int i = 0; i < 2 * numbers; i++) {
                for (int j = 0; j <= (i | 1); j++) {
                    int cell = ROW[i] + j;
                    if (most[cell] < other.most[cell]) {
                        most[cell] = greatestOf(j) + greatestOf(i ^ 1);
                    }
                }
            }
            for (int a = 0; a < arrays; a++) {
                if (ends[2 * a] > other.ends[2 * a]) {
                    ends[2 * a] = LEAST_INT;
                }
                if (ends[2 * a + 1] < other.ends[2 * a + 1]) {
                    ends[2 * a + 1] = GREATEST_INT;
                }
            }
        }

        void addNumber() {
            numbers++;
            unbind(numbers - 1);
        }

        void addArray() {
            ends[2 * arrays] = 0;
            ends[2 * arrays + 1] = 0;
            arrays++;
        }

        /** The number becomes any int. */
        void unbind(int slot) {
            for (int i = 2 * slot; i <= 2 * slot + 1; i++) {
                most[cell(i, i)] = 0;
                most[cell(i, i ^ 1)] = 2 * greatestOf(i ^ 1);
                for (int j = 0; j < 2 * numbers; j++) {
                    if (j / 2 != slot) {
                        most[cell(i, j)] = greatestOf(i ^ 1) + greatest(j, j);
                    }
                }
            }
        }

        /** The number is turned round, and may be no int then. */
        void negate(int slot) {
            int even = 2 * slot;
            for (int j = 0; j < 2 * numbers; j++) {
                if (j / 2 != slot) {
                    swap(cell(even, j), cell(even + 1, j));
                }
            }
            swap(cell(even, even + 1), cell(even + 1, even));
        }

        private void swap(int cell, int other) {
            long kept = most[cell];
            most[cell] = most[other];
            most[other] = kept;
        }

        /** Anything from least up to greatest is added to the number; it may be no int then. */
        void shift(int slot, long least, long greatest) {
            int even = 2 * slot;
            for (int j = 0; j < 2 * numbers; j++) {
                if (j / 2 != slot) {
                    most[cell(even, j)] -= least;
                    most[cell(even + 1, j)] += greatest;
                }
            }
            most[cell(even, even + 1)] -= 2 * least;
            most[cell(even + 1, even)] += 2 * greatest;
        }

        /**
         * Bounds were tight before those of loose slots were made less, so that only ways through these can make
         * others less; then come the bounds that hold for ints alone, and what two numbers come to by their own bounds.
         */
        void tighten(long[] rows) {
            for (int slot = 0; slot < numbers && !nothing; slot++) {
                if ((loose >> slot & 1) == 1) {
                    goThrough(slot, rows);
                }
            }
            if (loose != 0 && !nothing) {
                roundDown();
            }
            if (loose != 0 && !nothing) {
                addUp(rows);
            }
            loose = 0;
        }

        private void goThrough(int slot, long[] rows) {
            int even = 2 * slot;
            int half = rows.length / 2;
            long across = most[cell(even, even + 1)];
            long back = most[cell(even + 1, even)];
            if (across + back < 0) {
                nothing = true;
                return;
            }
            for (int j = 0; j < 2 * numbers; j++) {
                long fromEven = most[cell(even, j)];
                long fromOdd = most[cell(even + 1, j)];
                rows[j] = Math.min(fromEven, across + fromOdd);
                rows[half + j] = Math.min(fromOdd, back + fromEven);
            }
            for (int i = 0; i < 2 * numbers; i++) {
                long toEven = rows[half + (i ^ 1)];
                long toOdd = rows[i ^ 1];
                int row = ROW[i];
                for (int j = 0; j <= (i | 1); j++) {
                    long way = Math.min(toEven + rows[j], toOdd + rows[half + j]);
                    most[row + j] = Math.min(most[row + j], way);
                }
                if (most[row + i] < 0) {
                    nothing = true;
                }
            }
        }

        private void roundDown() {
            for (int i = 0; i < 2 * numbers; i++) {
                most[cell(i, i ^ 1)] &= -2L;
            }
            for (int i = 0; i < 2 * numbers; i += 2) {
                if (most[cell(i, i + 1)] + most[cell(i + 1, i)] < 0) {
                    nothing = true;
                }
            }
        }

        private void addUp(long[] rows) {
            for (int j = 0; j < 2 * numbers; j++) {
                rows[j] = most[cell(j ^ 1, j)] / 2;
            }
            for (int i = 0; i < 2 * numbers; i++) {
                int row = ROW[i];
                for (int j = 0; j <= (i | 1); j++) {
                    most[row + j] = Math.min(most[row + j], rows[i ^ 1] + rows[j]);
                }
            }
        }

        boolean admits(int[] values, int[] places, int[] sizes) {
            for (int i = 0; i < 2 * numbers && !nothing; i++) {
                long from = i % 2 == 0 ? values[i / 2] : -(long) values[i / 2];
                for (int j = 0; j <= (i | 1); j++) {
                    long to = j % 2 == 0 ? values[j / 2] : -(long) values[j / 2];
                    if (to - from > most[ROW[i] + j]) {
                        return false;
                    }
                }
            }
            for (int a = 0; a < arrays && !nothing; a++) {
                for (int i = 0; i < sizes[a]; i++) {
                    int held = places[a * MOST_PLACES + i];
                    if (held < ends[2 * a] || held > ends[2 * a + 1]) {
                        return false;
                    }
                }
            }
            return !nothing;
        }
    }

    /** The ranges of SUMs, and of the parts of their forms, by a state. */
    private static final class Ranges {
        private static final int SEVERAL = 2;

        private Source source;
        private State state;
        private int numberBase;
        private int arrayBase;
        int alarms;
        /** The values that wait, and of those that are a NAME alone the slot; the range of the whole SUM stays at 0. */
        final long[] low = new long[STACK];
        final long[] high = new long[STACK];
        private final int[] named = new int[STACK];
        private int height;
        private long[] partLow = new long[0];
        private long[] partHigh = new long[0];
        /** Of a form: for each slot 1 or -1 if it is free, SEVERAL if it is more than one part. */
        final int[] signs = new int[MOST_NUMBERS];
        private int free;
        private int mixed;
        private long formLow;
        private long formHigh;
        private long literals;
        long othersLow;
        long othersHigh;

        /** From here on all is looked at as it stands at the point, by that state. */
        void lookFrom(Program program, int p, State from) {
            source = program.source;
            numberBase = program.numberBase[p];
            arrayBase = program.arrayBase[p];
            state = from;
            alarms = 0;
            if (partLow.length < source.parts) {
                partLow = new long[source.parts];
                partHigh = new long[source.parts];
            }
        }

        void lookBy(State from) {
            state = from;
        }

        /** False for nothing; otherwise its range stands at 0. */
        boolean reckon(int sum) {
            height = 0;
            int part = source.sumPart[sum];
            for (int k = source.sumCode[sum]; k < source.sumCode[sum + 1]; k++) {
                boolean found = true;
                switch (source.code[3 * k]) {
                    case Source.NEGATE:
                        negate();
                        break;
                    case '+':
                        add(0);
                        break;
                    case '-':
                        add(1);
                        break;
                    case '*':
                        multiply();
                        break;
                    case '/':
                        found = divide();
                        break;
                    case '%':
                        found = takeRest();
                        break;
                    default:
                        found = find(source.code[3 * k], source.code[3 * k + 1], source.code[3 * k + 2]);
                        break;
                }
                if (!found || !keepInts()) {
                    return false;
                }
                if (part < source.sumPart[sum + 1] && source.partEnd[part] == k + 1) {
                    partLow[part] = low[height - 1];
                    partHigh[part] = high[height - 1];
                    part++;
                }
            }
            return true;
        }

        private void push(long least, long greatest, int slot) {
            low[height] = least;
            high[height] = greatest;
            named[height] = slot;
            height++;
        }

        private boolean find(int what, int first, int second) {
            switch (what) {
                case Source.LITERAL:
                    push(first, first, NONE);
                    return true;
                case Source.NUMBER:
                    int v = 2 * (numberBase + first);
                    push(-state.greatest(v + 1, v + 1), state.greatest(v, v), v / 2);
                    return true;
                case Source.INPUT:
                    push(first, second, NONE);
                    return true;
                default:
                    int a = arrayBase + first;
                    height--;
                    if (!hasPlace(second)) {
                        return false;
                    }
                    push(state.ends[2 * a], state.ends[2 * a + 1], NONE);
                    return true;
            }
        }

        /** Whether what was reckoned last, now no longer waiting, can be a place of an array of that size. */
        private boolean hasPlace(int size) {
            if (low[height] < 0 || high[height] >= size) {
                alarms |= 4;
            }
            return high[height] >= 0 && low[height] < size;
        }

        boolean indexes(int size) {
            height = 0;
            return hasPlace(size);
        }

        private void negate() {
            int k = height - 1;
            long least = -high[k];
            high[k] = -low[k];
            low[k] = least;
            named[k] = NONE;
        }

        /** Turned is 1 where the second value is taken away. */
        private void add(int turned) {
            height--;
            int k = height - 1;
            if (named[k] != NONE && named[k + 1] != NONE && named[k] != named[k + 1]) {
                int v = 2 * named[k];
                int w = 2 * named[k + 1] + turned;
                low[k] = -state.greatest(v ^ 1, w ^ 1);
                high[k] = state.greatest(v, w);
            } else if (turned == 0) {
                low[k] += low[k + 1];
                high[k] += high[k + 1];
            } else if (named[k] != NONE && named[k] == named[k + 1]) {
                low[k] = 0;
                high[k] = 0;
            } else {
                low[k] -= high[k + 1];
                high[k] -= low[k + 1];
            }
            named[k] = NONE;
        }

        private void multiply() {
            height--;
            int k = height - 1;
            long a = low[k] * low[k + 1];
            long b = low[k] * high[k + 1];
            long c = high[k] * low[k + 1];
            long d = high[k] * high[k + 1];
            low[k] = Math.min(Math.min(a, b), Math.min(c, d));
            high[k] = Math.max(Math.max(a, b), Math.max(c, d));
            named[k] = NONE;
        }

        /** Whether what was reckoned last, now no longer waiting, can be a divisor. */
        private boolean hasDivisor() {
            if (low[height] <= 0 && high[height] >= 0) {
                alarms |= 2;
            }
            return low[height] != 0 || high[height] != 0;
        }

        /** The least and the greatest come by the divisors that are farthest from 0 or nearest to it, on both sides. */
        private boolean divide() {
            height--;
            int k = height - 1;
            named[k] = NONE;
            if (!hasDivisor()) {
                return false;
            }
            long from = low[k + 1] == 0 ? 1 : low[k + 1];
            long to = high[k + 1] == 0 ? -1 : high[k + 1];
            long beforeZero = from > 0 ? from : Math.min(to, -1);
            long behindZero = to < 0 ? to : Math.max(from, 1);
            long least = low[k];
            long greatest = high[k];
            long byFar = leastBy(least, greatest, from, to);
            long byNear = leastBy(least, greatest, beforeZero, behindZero);
            low[k] = Math.min(byFar, byNear);
            // the greatest one is found as the least one of what is turned round
            byFar = leastBy(-greatest, -least, from, to);
            byNear = leastBy(-greatest, -least, beforeZero, behindZero);
            high[k] = -Math.min(byFar, byNear);
            return true;
        }

        private static long leastBy(long least, long greatest, long divisor, long other) {
            if (divisor == 0 || other == 0) {
                return 0;
            }
            long byOne = Math.min(least / divisor, greatest / divisor);
            return Math.min(byOne, Math.min(least / other, greatest / other));
        }

        private boolean takeRest() {
            height--;
            int k = height - 1;
            named[k] = NONE;
            if (!hasDivisor()) {
                return false;
            }
            long size = Math.max(high[k + 1], -low[k + 1]);
            low[k] = low[k] >= 0 ? 0 : Math.max(low[k], 1 - size);
            high[k] = high[k] <= 0 ? 0 : Math.min(high[k], size - 1);
            return true;
        }

        private boolean keepInts() {
            int k = height - 1;
            if (low[k] < LEAST_INT || high[k] > GREATEST_INT) {
                alarms |= 1;
            }
            low[k] = Math.max(low[k], LEAST_INT);
            high[k] = Math.min(high[k], GREATEST_INT);
            return low[k] <= high[k];
        }

        /** The form of SUMs that follow one another, with the ranges that their parts had when they were reckoned. */
        void form(int fromSum, int toSum) {
            Arrays.fill(signs, 0);
            mixed = 0;
            formLow = 0;
            formHigh = 0;
            literals = 0;
            for (int part = source.sumPart[fromSum]; part < source.sumPart[toSum]; part++) {
                boolean turned = source.partTurned[part] == 1;
                formLow += turned ? -partHigh[part] : partLow[part];
                formHigh += turned ? -partLow[part] : partHigh[part];
                int slot = source.partSlot[part];
                if (slot == Source.LITERAL_PART) {
                    literals += turned ? -partLow[part] : partLow[part];
                } else {
                    mixed++;
                }
                if (slot >= 0) {
                    int x = numberBase + slot;
                    signs[x] = signs[x] != 0 ? SEVERAL : turned ? -1 : 1;
                }
            }
            free = 0;
            for (int x = 0; x < MOST_NUMBERS; x++) {
                if (isFree(x)) {
                    free++;
                }
            }
        }

        boolean isFree(int x) {
            return signs[x] == 1 || signs[x] == -1;
        }

        /** The range of all parts but the free ones x and y (NONE for none). */
        void findOthers(int x, int y) {
            int left = mixed;
            int v = NONE;
            int w = NONE;
            othersLow = formLow;
            othersHigh = formHigh;
            for (int z = 0; z < MOST_NUMBERS; z++) {
                if (isFree(z)) {
                    int u = signs[z] < 0 ? 2 * z + 1 : 2 * z;
                    if (z == x || z == y) {
                        othersLow += state.greatest(u ^ 1, u ^ 1);
                        othersHigh -= state.greatest(u, u);
                        left--;
                    } else {
                        v = w;
                        w = u;
                    }
                }
            }
            // two that are left are two free ones only if all are free
            if (free == mixed && left == 2 && v != NONE) {
                othersLow = literals - state.greatest(v ^ 1, w ^ 1);
                othersHigh = literals + state.greatest(v, w);
            }
        }
    }

    /** What a statement makes of what is known before it. */
    private static final class Effect {
        private final Program program;
        private final Ranges ranges = new Ranges();
        /** What is known behind it, or where its COND holds, and where that fails. */
        State holds = new State();
        State fails = new State();
        private State before = new State();
        /** What is known where a && or || is settled by what stands in front of it. */
        private final State[] aside = new State[2 * MOST_DEPTH + 2];
        private int asides;
        final long[] rows = new long[State.ROWS];
        int alarms;

        Effect(Program program) {
            this.program = program;
        }

        /** Of a statement without a COND. */
        void carry(int p, State from) {
            Statement statement = program.statements[p];
            ranges.lookFrom(program, p, from);
            holds.copy(from);
            switch (statement.kind) {
                case Statement.VAR:
                    bring(statement);
                    if (statement.size == 0 && statement.sums > 0) {
                        set(program.numbersAt(p), statement.sum);
                    }
                    break;
                case Statement.SET:
                    set(program.numberBase[p] + statement.slot, statement.sum);
                    break;
                case Statement.STORE:
                    store(statement, program.arrayBase[p] + statement.slot);
                    break;
                case Statement.CALL:
                    // made tight behind each one: it can leave nothing though its SUM has a range, and those behind it
                    // are not looked at then
                    for (int k = 0; k < statement.sums && !holds.nothing; k++) {
                        holds.addNumber();
                        set(program.numbersAt(p) + k, statement.sum + k);
                        holds.tighten(rows);
                    }
                    break;
                default:
                    set(program.taker(p), statement.sum);
                    break;
            }
            holds.tighten(rows);
            alarms = ranges.alarms;
        }

        private void bring(Statement statement) {
            if (statement.size > 0) {
                holds.addArray();
            } else {
                int v = 2 * holds.numbers;
                holds.addNumber();
                if (statement.sums == 0) {
                    holds.limit(v, v, 0);
                    holds.limit(v + 1, v + 1, 0);
                }
            }
        }

        private void store(Statement statement, int a) {
            boolean found = ranges.reckon(statement.sum) && ranges.indexes(statement.size);
            if (!found || !ranges.reckon(statement.sum + 1)) {
                holds.nothing = true;
                return;
            }
            long least = ranges.low[0];
            long greatest = ranges.high[0];
            boolean alone = statement.size == 1;
            holds.ends[2 * a] = alone ? least : Math.min(holds.ends[2 * a], least);
            holds.ends[2 * a + 1] = alone ? greatest : Math.max(holds.ends[2 * a + 1], greatest);
        }

        /** Lays on what holds behind x = SUM (for NONE: behind a look at the SUM); bounds are made tight later. */
        private void set(int x, int sum) {
            if (!ranges.reckon(sum)) {
                holds.nothing = true;
            }
            if (holds.nothing || x == NONE) {
                return;
            }
            long least = ranges.low[0];
            long greatest = ranges.high[0];
            ranges.form(sum, sum + 1);
            if (ranges.isFree(x)) {
                ranges.findOthers(x, NONE);
                if (ranges.signs[x] < 0) {
                    holds.negate(x);
                }
                holds.shift(x, ranges.othersLow, ranges.othersHigh);
            } else {
                holds.unbind(x);
            }
            for (int y = 0; y < MOST_NUMBERS; y++) {
                if (y != x && ranges.isFree(y)) {
                    ranges.findOthers(y, NONE);
                    int w = ranges.signs[y] < 0 ? 2 * y : 2 * y + 1;
                    holds.limit(2 * x, w, ranges.othersHigh);
                    holds.limit(2 * x + 1, w ^ 1, -ranges.othersLow);
                }
            }
            holds.limit(2 * x, 2 * x, greatest);
            holds.limit(2 * x + 1, 2 * x + 1, -least);
        }

        /** Of a statement with a COND. */
        void split(int p, State from) {
            Statement statement = program.statements[p];
            Source source = program.source;
            before.copy(from);
            ranges.lookFrom(program, p, before);
            asides = 0;
            for (int k = statement.cond; k < statement.condEnd; k++) {
                int kind = source.condKind[k];
                if (kind == Tokens.AND || kind == '!') {
                    swapSides();
                }
                if (kind == Tokens.AND || kind == Tokens.OR) {
                    putAside();
                } else if (kind == Source.END_AND || kind == Source.END_OR) {
                    joinAside(kind);
                } else if (kind != '!' && reckonBoth(source.condWith[k])) {
                    confine(holds, kind);
                    confine(fails, opposite(kind));
                    holds.tighten(rows);
                    fails.tighten(rows);
                }
            }
            alarms = ranges.alarms;
            if (statement.kind == Statement.ASSERT && !fails.nothing) {
                alarms |= 8;
            }
        }

        private void swapSides() {
            State kept = holds;
            holds = fails;
            fails = kept;
        }

        /** What holds is settled, for a || (for a && both were swapped); the other side is looked at further. */
        private void putAside() {
            State spare = aside[asides] == null ? new State() : aside[asides];
            aside[asides] = holds;
            asides++;
            State look = fails;
            fails = before;
            holds = spare;
            before = look;
            ranges.lookBy(before);
        }

        private void joinAside(int kind) {
            asides--;
            if (kind == Source.END_AND) {
                fails.join(aside[asides]);
            } else {
                holds.join(aside[asides]);
            }
        }

        /** False when there is nothing on both sides, as there was before, or because there is no value to compare. */
        private boolean reckonBoth(int sum) {
            holds.copy(before);
            fails.copy(before);
            if (before.nothing) {
                return false;
            }
            boolean found = ranges.reckon(sum) && ranges.reckon(sum + 1);
            if (found) {
                ranges.form(sum, sum + 2);
            }
            holds.nothing = !found;
            fails.nothing = !found;
            return found;
        }

        private static int opposite(int relation) {
            switch (relation) {
                case '<':
                    return Tokens.AT_LEAST;
                case '>':
                    return Tokens.AT_MOST;
                case Tokens.AT_LEAST:
                    return '<';
                case Tokens.AT_MOST:
                    return '>';
                case Tokens.EQUAL:
                    return Tokens.UNEQUAL;
                default:
                    return Tokens.EQUAL;
            }
        }

        /** The form has that relation to 0. */
        private void confine(State on, int relation) {
            switch (relation) {
                case '<':
                    meet(on, 0, -1);
                    break;
                case '>':
                    meet(on, 1, -1);
                    break;
                case Tokens.AT_MOST:
                    meet(on, 0, 0);
                    break;
                case Tokens.AT_LEAST:
                    meet(on, 1, 0);
                    break;
                case Tokens.EQUAL:
                    meet(on, 0, 0);
                    meet(on, 1, 0);
                    break;
                default:
                    // a form that is 0 alone begins with 0, and nothing is left of it
                    ranges.findOthers(NONE, NONE);
                    boolean fromZero = ranges.othersLow == 0;
                    boolean toZero = ranges.othersHigh == 0;
                    if (fromZero || toZero) {
                        meet(on, fromZero ? 1 : 0, -1);
                    }
                    break;
            }
        }

        /** The form, or, for 1, the form turned round, is c at most; bounds are made tight later. */
        private void meet(State on, int turned, long c) {
            ranges.findOthers(NONE, NONE);
            if ((turned == 0 ? ranges.othersLow : -ranges.othersHigh) > c) {
                on.nothing = true;
                return;
            }
            for (int x = 0; x < MOST_NUMBERS; x++) {
                for (int y = x; y < MOST_NUMBERS && ranges.isFree(x); y++) {
                    if (ranges.isFree(y)) {
                        ranges.findOthers(x, y == x ? NONE : y);
                        long least = turned == 0 ? ranges.othersLow : -ranges.othersHigh;
                        int v = 2 * x + (ranges.signs[x] < 0 ? 1 - turned : turned);
                        int w = 2 * y + (ranges.signs[y] < 0 ? 1 - turned : turned);
                        on.limit(v, w, c - least);
                    }
                }
            }
        }
    }

    /** Finds what is known at all points, with one way through them for each round of each while. */
    private static final class Analysis {
        // of an if: which of its BLOCKs is looked at
        private static final int FIRST_BLOCK = 0;
        private static final int OTHER_BLOCK = 1;
        // of a while: what the round is for
        private static final int CLIMBING = 0;
        private static final int TRYING = 1;
        private static final int LAST = 2;
        private static final int JOINED_ROUNDS = 2;
        private static final int MOST_TRIES = 2;

        final State[] known = new State[MOST_POINTS];
        final int[] alarms = new int[MOST_POINTS];
        int work;
        boolean tooMuch;
        private final Program program;
        private final Effect effect;
        /** What is known at the point that the way has come to. */
        private State now = new State();
        private int at;
        /** The ifs, whiles and calls in whose BLOCKs that point is. */
        private final int[] open = new int[MOST_POINTS];
        private int opened;
        private final int[] phase = new int[MOST_POINTS];
        /** Of an if: where COND fails, then its first BLOCK's end; of a while: what is tried, then where COND fails. */
        private final State[] kept = new State[MOST_POINTS];
        /** Of a while: S, H by its tight bounds, and H by those that are told. */
        private final State[] start = new State[MOST_POINTS];
        private final State[] head = new State[MOST_POINTS];
        private final State[] toldHead = new State[MOST_POINTS];
        private final int[] rounds = new int[MOST_POINTS];
        private final int[] tries = new int[MOST_POINTS];

        Analysis(Program program, Effect effect) {
            this.program = program;
            this.effect = effect;
        }

        void analyse() {
            work = 0;
            tooMuch = false;
            at = 0;
            opened = 0;
            now.begin();
            for (int p = 0; p < program.count; p++) {
                if (known[p] == null) {
                    known[p] = new State();
                }
            }
            int last = program.count - 1;
            for (int round = 0; round < MANY && !tooMuch && (opened > 0 || at < last); round++) {
                int limit = opened == 0 ? last : limitOf(open[opened - 1]);
                if (at == limit) {
                    shut();
                } else if (now.nothing) {
                    skip(limit);
                } else {
                    look();
                }
            }
            now.keep(0, 0);
            known[last].copy(now);
            alarms[last] = 0;
            if (tooMuch) {
                work = 0;
                now.nothing = true;
                at = 0;
                skip(program.count);
            }
        }

        private int limitOf(int p) {
            boolean isIf = program.statements[p].kind == Statement.IF;
            return isIf && phase[opened - 1] == FIRST_BLOCK ? program.elseAt[p] : program.after[p];
        }

        private void skip(int limit) {
            for (int p = at; p < limit; p++) {
                known[p].copy(now);
                known[p].keep(program.numbersAt(p), program.arraysAt(p));
                alarms[p] = 0;
            }
            at = limit;
        }

        private void look() {
            work++;
            if (work > MOST_WORK) {
                tooMuch = true;
                return;
            }
            int p = at;
            Statement statement = program.statements[p];
            boolean goesOn = opened > 0 && open[opened - 1] == p;
            if (!goesOn && (statement.forks() || statement.kind == Statement.CALL)) {
                openBlocks(p);
            }
            known[p].copy(now);
            if (statement.asks()) {
                effect.split(p, now);
            } else {
                effect.carry(p, now);
            }
            alarms[p] = effect.alarms;
            now.copy(effect.holds);
            if (statement.kind == Statement.IF || statement.kind == Statement.WHILE && phase[opened - 1] == LAST) {
                kept[opened - 1].copy(effect.fails);
            }
            at = p + 1;
        }

        private void openBlocks(int p) {
            Statement statement = program.statements[p];
            int k = opened;
            opened++;
            open[k] = p;
            phase[k] = statement.kind == Statement.WHILE ? CLIMBING : FIRST_BLOCK;
            if (statement.forks() && kept[k] == null) {
                kept[k] = new State();
            }
            if (statement.kind == Statement.WHILE) {
                if (start[k] == null) {
                    start[k] = new State();
                    head[k] = new State();
                    toldHead[k] = new State();
                }
                start[k].copy(now);
                head[k].copy(now);
                toldHead[k].copy(now);
                rounds[k] = 0;
                tries[k] = 0;
            }
        }

        /** The end of a BLOCK. */
        private void shut() {
            int k = opened - 1;
            int p = open[k];
            int kind = program.statements[p].kind;
            now.keep(program.numbersAt(p), program.arraysAt(p));
            if (kind == Statement.WHILE) {
                endRound(k);
            } else if (kind == Statement.IF && phase[k] == FIRST_BLOCK) {
                phase[k] = OTHER_BLOCK;
                swapKept(k);
            } else {
                if (kind == Statement.IF) {
                    now.join(kept[k]);
                }
                opened--;
            }
        }

        private void swapKept(int k) {
            State first = kept[k];
            kept[k] = now;
            now = first;
        }

        private void endRound(int k) {
            if (phase[k] == LAST) {
                swapKept(k);
                opened--;
                return;
            }
            at = open[k];
            now.join(start[k]);
            boolean trying = phase[k] == TRYING;
            if (now.within(trying ? kept[k] : head[k])) {
                if (trying) {
                    head[k].copy(kept[k]);
                }
                tryLess(k);
            } else if (trying) {
                beginLast(k);
            } else {
                climb(k);
            }
        }

        private void climb(int k) {
            rounds[k]++;
            if (rounds[k] <= JOINED_ROUNDS) {
                head[k].join(now);
                toldHead[k].copy(head[k]);
            } else {
                toldHead[k].widen(now);
                head[k].copy(toldHead[k]);
                head[k].loosenAll();
                head[k].tighten(effect.rows);
            }
            now.copy(head[k]);
        }

        private void tryLess(int k) {
            if (tries[k] < MOST_TRIES && !now.same(head[k])) {
                tries[k]++;
                phase[k] = TRYING;
                kept[k].copy(now);
            } else {
                beginLast(k);
            }
        }

        private void beginLast(int k) {
            phase[k] = LAST;
            now.copy(head[k]);
        }
    }

    /** Runs the program. */
    private static final class Machine {
        private static final int UNDONE = 16;

        private final Program program;
        private final int[] inputs = new int[MOST_INPUTS];
        int given;
        int taken;
        int at;
        int done;
        final int[] values = new int[MOST_NUMBERS];
        final int[] places = new int[MOST_ARRAYS * MOST_PLACES];
        final int[] sizes = new int[MOST_ARRAYS];
        int outside;
        private int trap;
        private final int[] stack = new int[STACK];
        private int height;

        Machine(Program program) {
            this.program = program;
        }

        int take(int input) {
            if (given == MOST_INPUTS) {
                return NONE;
            }
            inputs[given] = input;
            given++;
            return given;
        }

        void forget() {
            at = 0;
            done = 0;
            taken = 0;
        }

        /** Claims are null when the run need not keep to them. */
        int go(int steps, Analysis analysis, State[] claims) {
            forget();
            trap = 0;
            int last = program.count - 1;
            arrive(analysis, claims);
            for (int step = 0; step < steps && at != last && trap == 0; step++) {
                done++;
                carryOut(program.statements[at]);
                if (trap == 0) {
                    arrive(analysis, claims);
                } else if (!analysis.tooMuch && (analysis.alarms[at] & trap) == 0) {
                    outside++;
                }
            }
            if (trap != 0) {
                return trap;
            }
            return at == last ? 0 : UNDONE;
        }

        private void arrive(Analysis analysis, State[] claims) {
            if (analysis.tooMuch) {
                return;
            }
            boolean right = analysis.known[at].admits(values, places, sizes);
            if (right && claims != null) {
                right = claims[at].admits(values, places, sizes);
            }
            if (!right) {
                outside++;
            }
        }

        private void carryOut(Statement statement) {
            int base = program.numberBase[at];
            int next = program.first[at];
            switch (statement.kind) {
                case Statement.VAR:
                    declare(statement);
                    break;
                case Statement.SET:
                    put(base + statement.slot, reckon(statement.sum));
                    break;
                case Statement.STORE:
                    store(statement);
                    break;
                case Statement.CALL:
                    for (int k = 0; k < statement.sums; k++) {
                        put(program.numbersAt(at) + k, reckon(statement.sum + k));
                    }
                    break;
                case Statement.RETURN:
                    put(program.taker(at), reckon(statement.sum));
                    break;
                default:
                    if (!holds(statement)) {
                        next = program.other[at];
                        fail(statement.kind == Statement.ASSERT ? 8 : 0);
                    }
                    break;
            }
            if (trap == 0) {
                at = next;
            }
        }

        private void fail(int what) {
            if (trap == 0) {
                trap = what;
            }
        }

        private void put(int slot, int number) {
            if (trap == 0 && slot != NONE) {
                values[slot] = number;
            }
        }

        private void declare(Statement statement) {
            if (statement.size == 0) {
                put(program.numbersAt(at), statement.sums == 0 ? 0 : reckon(statement.sum));
                return;
            }
            int a = program.arraysAt(at);
            sizes[a] = statement.size;
            for (int i = 0; i < statement.size; i++) {
                places[a * MOST_PLACES + i] = 0;
            }
        }

        private void store(Statement statement) {
            int i = reckon(statement.sum);
            if (i < 0 || i >= statement.size) {
                fail(4);
            }
            int number = reckon(statement.sum + 1);
            if (trap == 0) {
                places[(program.arrayBase[at] + statement.slot) * MOST_PLACES + i] = number;
            }
        }

        private boolean holds(Statement statement) {
            Source source = program.source;
            boolean truth = false;
            for (int k = statement.cond; k < statement.condEnd && trap == 0; k++) {
                int kind = source.condKind[k];
                if (kind == '!') {
                    truth = !truth;
                } else if (kind == Tokens.AND || kind == Tokens.OR) {
                    if (truth == (kind == Tokens.OR)) {
                        k = Math.max(k, source.condWith[k] - 1);
                    }
                } else if (kind != Source.END_AND && kind != Source.END_OR) {
                    int first = reckon(source.condWith[k]);
                    int second = reckon(source.condWith[k] + 1);
                    truth = compare(kind, first, second);
                }
            }
            return truth;
        }

        private static boolean compare(int relation, int first, int second) {
            switch (relation) {
                case '<':
                    return first < second;
                case Tokens.AT_MOST:
                    return first <= second;
                case '>':
                    return first > second;
                case Tokens.AT_LEAST:
                    return first >= second;
                case Tokens.EQUAL:
                    return first == second;
                default:
                    return first != second;
            }
        }

        /** After a trap nothing is reckoned any more, and what it answers is not used. */
        private int reckon(int sum) {
            Source source = program.source;
            height = 0;
            for (int k = source.sumCode[sum]; k < source.sumCode[sum + 1] && trap == 0; k++) {
                int first = source.code[3 * k + 1];
                int second = source.code[3 * k + 2];
                switch (source.code[3 * k]) {
                    case Source.LITERAL:
                        push(first);
                        break;
                    case Source.NUMBER:
                        push(values[program.numberBase[at] + first]);
                        break;
                    case Source.INPUT:
                        push(nextInput(first, second));
                        break;
                    case Source.ARRAY:
                        takePlace(program.arrayBase[at] + first, second);
                        break;
                    case Source.NEGATE:
                        height--;
                        pushInt(-(long) stack[height]);
                        break;
                    default:
                        height -= 2;
                        operate(source.code[3 * k], stack[height], stack[height + 1]);
                        break;
                }
            }
            return stack[0];
        }

        private void push(int number) {
            stack[height] = number;
            height++;
        }

        private void pushInt(long number) {
            if (number < LEAST_INT || number > GREATEST_INT) {
                fail(1);
            }
            push((int) number);
        }

        private int nextInput(int least, int greatest) {
            int input = 0;
            if (taken < given) {
                input = inputs[taken];
                taken++;
            }
            return input < least || input > greatest ? least : input;
        }

        private void takePlace(int a, int size) {
            int i = stack[height - 1];
            if (i < 0 || i >= size) {
                fail(4);
            } else {
                stack[height - 1] = places[a * MOST_PLACES + i];
            }
        }

        private void operate(int what, long first, long second) {
            if (what == '+') {
                pushInt(first + second);
            } else if (what == '-') {
                pushInt(first - second);
            } else if (what == '*') {
                pushInt(first * second);
            } else if (second == 0) {
                fail(2);
            } else {
                pushInt(what == '/' ? first / second : first % second);
            }
        }
    }
}
