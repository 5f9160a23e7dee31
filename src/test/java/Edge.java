import java.io.IOException;
import java.io.UncheckedIOException;
import java.nio.charset.StandardCharsets;
import java.nio.file.Files;
import java.nio.file.Path;
import java.util.List;
import java.util.function.Consumer;
import java.util.function.ToLongFunction;

/**
 * Tries sentences of the document at their edges. Each answer is asked for under the sentence from which it is due;
 * the sentence must stand, word by word, in the section or paragraph of the document that is named with it.
 */
final class Edge {
    private static final Path DOCUMENT = Path.of("..", "shared", "DOC.md");
    private static final int MOST_CALLS = 512;

    private final String name;
    private final List<String> document;
    private String sentence = "no sentence";
    private int sentences;
    private int answers;
    private int wrong;
    private boolean beyond;
    Desk desk = new Desk();

    Edge(String name) {
        this.name = name;
        try {
            document = Files.readAllLines(DOCUMENT, StandardCharsets.UTF_8);
        } catch (IOException e) {
            throw new UncheckedIOException(e);
        }
    }

    /** What follows comes from this sentence of a promise. */
    void promise(int number, String words) {
        name("## Promise " + number + ":", words, section("## Promise " + number + ":"));
    }

    /** What follows comes from this sentence of 'What it is' or 'The public face'. */
    void front(String heading, String words) {
        name("## " + heading, words, section("## " + heading));
    }

    /** What follows comes from this sentence of the paragraph of 'Terms' that begins so. */
    void terms(String paragraph, String words) {
        StringBuilder found = new StringBuilder();
        for (String row : section("## Terms").split("\n")) {
            if (row.strip().startsWith(paragraph)) {
                found.append(row);
            }
        }
        name("Terms, " + paragraph, words, found.toString());
    }

    private String section(String heading) {
        StringBuilder section = new StringBuilder();
        boolean inside = false;
        for (String row : document) {
            if (row.startsWith("## ")) {
                inside = row.startsWith(heading);
            }
            if (inside) {
                section.append(row).append('\n');
            }
        }
        return section.toString();
    }

    private void name(String where, String words, String text) {
        sentence = where + " \"" + words + "\"";
        sentences++;
        if (words.isEmpty() || !text.contains(words)) {
            wrong++;
            System.out.println(name + ": the document has no such sentence: " + sentence);
        }
    }

    void due(String call, long got, long want) {
        due(call, String.valueOf(got), String.valueOf(want));
    }

    void due(String call, String got, String want) {
        answers++;
        if (!got.equals(want)) {
            wrong++;
            System.out.println(name + ": " + call + " answered " + got + ", due is " + want + " by " + sentence);
        }
    }

    void fresh() {
        countCalls();
        desk = new Desk();
        beyond = false;
    }

    /** A desk for an edge to which no 512 calls come: what it answers there is free, but this class keeps to the promise. */
    void freshForManyCalls() {
        fresh();
        beyond = true;
    }

    private void countCalls() {
        if (desk.calls() > MOST_CALLS && !beyond) {
            wrong++;
            System.out.println(name + ": " + desk.calls() + " calls of one desk, before " + sentence);
        }
    }

    /** A program, on a new desk. */
    void program(String text) {
        fresh();
        due("end of " + text, desk.load(text), 0);
    }

    void right(String text) {
        program(text);
        due("told(0) of " + text, desk.told(0), 0);
        due("told(1) of " + text, desk.told(1), 0);
    }

    /** The fault lies where the mark @ stands, which is no part of the text. */
    void fault(String marked) {
        int place = marked.indexOf('@');
        faulty(marked.substring(0, place) + marked.substring(place + 1), place);
    }

    void faulty(String text, int place) {
        fresh();
        due("end of " + text, desk.load(text), 1);
        due("told(0) of " + text, desk.told(0), 0);
        due("told(1) of " + text, desk.told(1), place);
        due("told(2) of " + text, desk.told(2), 0);
        due("points() of " + text, desk.points(), 1);
    }

    /** What is wrong lies where the mark @ stands, which is no part of the text. */
    void mistaken(int what, String marked) {
        int place = marked.indexOf('@');
        String text = marked.substring(0, place) + marked.substring(place + 1);
        fresh();
        due("end of " + text, desk.load(text), 2);
        due("told(0) of " + text, desk.told(0), what);
        due("told(1) of " + text, desk.told(1), place);
        due("told(2) of " + text, desk.told(2), 0);
        due("points() of " + text, desk.points(), 1);
    }

    void known(int p, String want) {
        due("the line of point " + p, desk.line(false, p), want);
    }

    void claimed(int p, String want) {
        due("the line of the claim at " + p, desk.line(true, p), want);
    }

    /**
     * A while whose COND says nothing of what is known, and whose BLOCK leaves all as it is, has two rounds: the first
     * one, and the one that tells what is known inside. So its work is twice as much as that of its BLOCK, and 2.
     */
    static String whiles(int within) {
        return "while(any<1){".repeat(within) + "}".repeat(within);
    }

    /** Twelve whiles within one another, so that the innermost one comes to be looked at 4096 times; 26 points. */
    static String tooMuch() {
        return "fun m(){var x;" + "while(any<1){if(1<2){}".repeat(12) + "}".repeat(13);
    }

    /** Something of all that a desk can hold: bytes, a program, claims, inputs, a run that stands, and a line. */
    static void fill(Desk desk) {
        desk.load("fun m(){var x=any(0,9);var t[2];t[1]=x;x=any-5;x=x;}");
        desk.input(7);
        desk.input(-3);
        desk.claim(3, 0, 1, 0, 1, 8);
        desk.claimRange(3, 0, true, 6);
        desk.run(4);
        desk.show(true, 3);
        desk.feed("fun m(){var q=3;}");
    }

    /** A call that is refused by a desk that holds something of all. */
    void refused(String call, ToLongFunction<Desk> refusal, long want) {
        refused(call, refusal, want, Edge::fill);
    }

    void refused(String call, ToLongFunction<Desk> refusal, long want, Consumer<Desk> before) {
        fresh();
        compareWithTwin(call, refusal, want, before);
    }

    /** A call that is refused by a desk that holds something of all, and is full by more than 512 calls. */
    void refusedWhenFull(String call, ToLongFunction<Desk> refusal, Consumer<Desk> filling) {
        freshForManyCalls();
        Consumer<Desk> before = Edge::fill;
        compareWithTwin(call, refusal, -1, before.andThen(filling));
    }

    /** All answers behind the call must be those of a twin for which it was not made. */
    private void compareWithTwin(String call, ToLongFunction<Desk> refusal, long want, Consumer<Desk> before) {
        Desk twin = new Desk();
        before.accept(twin);
        before.accept(desk);
        due(call, refusal.applyAsLong(desk), want);
        due("all behind " + call, desk.everything().toString(), twin.everything().toString());
    }

    void finish() {
        countCalls();
        System.out.println(name + ": " + sentences + " sentences, " + answers + " answers, " + wrong + " wrong");
        if (wrong > 0 || answers == 0) {
            System.exit(1);
        }
    }
}
