import java.io.IOException;
import java.nio.charset.StandardCharsets;
import java.nio.file.Files;
import java.nio.file.Path;
import java.util.function.Supplier;

/**
 * Tests of sentences that name a boundary case. Each is told by its promise's number and by words of
 * the sentence, which must stand in the document: under that promise or among the terms.
 */
final class Edges {
    /** In place of a promise's number: the sentence is one for all of them. */
    static final int ALL = 0;

    private static final Path DOC = Path.of("../shared/DOC.md");
    private static final long FIRST_REFUSAL = -100001, LAST_REFUSAL = -100004;

    private final Check check;
    private final String document;
    private String sentence = "";

    Edges(String name) {
        check = new Check(name);
        document = document();
    }

    /** The document, or "" where it is not at hand: what the class answers can be tested without it. */
    private static String document() {
        try {
            return oneLine(Files.readString(DOC, StandardCharsets.UTF_8));
        } catch (IOException e) {
            System.out.println("without " + DOC + " no words are looked up");
            return "";
        }
    }

    private static String oneLine(String text) {
        return text.replaceAll("\\s+", " ");
    }

    void sentence(int promise, String words, Runnable test) {
        sentence = (promise == ALL ? "all promises" : "promise " + promise) + ", '" + words + "': ";
        check.holds(sentence + "these words stand in the document", stands(promise, words));
        int before = check.asked();
        test.run();
        check.holds(sentence + "its test asks for an answer", check.asked() > before);
    }

    private boolean stands(int promise, String words) {
        if (document.isEmpty() || promise == ALL) {
            return document.isEmpty() || document.contains(words);
        }
        return partFrom("## Terms", "## Promise").contains(words)
                || partFrom("## Promise " + promise + ":", "## ").contains(words);
    }

    private String partFrom(String head, String next) {
        int from = document.indexOf(head);
        int to = document.indexOf(next, from + head.length());
        return from < 0 || to < 0 ? "" : document.substring(from, to);
    }

    void holds(String what, boolean does) {
        check.holds(sentence + what, does);
    }

    void due(long want, FieldAfterField x, String call, int... a) {
        check.due(sentence + Calls.text(call, a), Calls.call(x, call, a), want);
    }

    /** A fraction: the call's last number, what, is left out here. */
    void fraction(long upper, long lower, FieldAfterField x, String call, int... a) {
        int[] whole = new int[a.length + 1];
        System.arraycopy(a, 0, whole, 0, a.length);
        due(upper, x, call, whole);
        whole[a.length] = 1;
        due(lower, x, call, whole);
    }

    /** The call is refused, and all that is told after it is as if it had not been made. */
    void refused(Supplier<FieldAfterField> made, long refusal, String call, int... a) {
        for (int part = 0; part < Looks.PARTS; part++) {
            FieldAfterField x = made.get();
            due(refusal, x, call, a);
            String after = Looks.part(x, part);
            holds(Calls.text(call, a) + " changes nothing", after.equals(Looks.part(made.get(), part)));
        }
    }

    /** The number at place 'at' of a call: at its bounds, next to them, and at the ends of int. */
    void bounds(Supplier<FieldAfterField> made, long refusal, int least, int most, int at, String call, int... a) {
        taken(made, call, with(a, at, least));
        taken(made, call, with(a, at, most));
        refused(made, refusal, call, with(a, at, least - 1));
        refused(made, refusal, call, with(a, at, most + 1));
        refused(made, refusal, call, with(a, at, Integer.MIN_VALUE));
        refused(made, refusal, call, with(a, at, Integer.MAX_VALUE));
    }

    private void taken(Supplier<FieldAfterField> made, String call, int[] a) {
        long answer = Calls.call(made.get(), call, a);
        holds(Calls.text(call, a) + " is not refused", answer > FIRST_REFUSAL || answer < LAST_REFUSAL);
    }

    private static int[] with(int[] a, int at, int v) {
        int[] changed = a.clone();
        changed[at] = v;
        return changed;
    }

    void end() {
        check.end();
    }

    /**
     * An object in the midst of things: of five marks 2 is out and 4 lost, model 1 stands and model 2
     * does not; of three lots 1 has no read; tool 1 is mended; there is a route of two layers alone.
     */
    static FieldAfterField used() {
        return used(5, 3);
    }

    /** The same with as many marks and lots as there is room for. */
    static FieldAfterField full() {
        return used(12, 60);
    }

    private static FieldAfterField used(int marks, int lots) {
        FieldAfterField x = new FieldAfterField();
        for (int m = 0; m < marks; m++) {
            x.mark(m % 3, m / 3, 0, 0);
        }
        x.read(0, 1, 2);
        x.read(1, 2, 1);
        x.read(2, 600, 3);
        x.read(3, 4, -4);
        x.judge(0, 300);
        for (int n = 0; n < lots; n++) {
            x.lot(n % 2, n);
        }
        x.back(0, 77);
        x.back(2, -8);
        x.mend(1);
        x.gain(5);
        x.rule(0, 2);
        x.rule(1, 2);
        for (int tool = 0; tool < 4; tool++) {
            x.offset(tool, 2, 40 + tool);
        }
        return x;
    }
}
