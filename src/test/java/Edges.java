import java.io.IOException;
import java.util.function.IntConsumer;
import java.util.function.Supplier;
import java.util.function.ToIntFunction;

/**
 * Tests of single sentences, each under the words of the document that it tests. A sentence that the document
 * does not have, or words of a section that no test quotes, are told as faults of the test.
 */
final class Edges {
    private static final int WINDOW = 128;

    private final Due due;
    private final Document document;

    Edges(String test) {
        due = new Due(test);
        Document found = null;
        try {
            found = new Document();
        } catch (IOException e) {
            System.out.println(test + ": the document was not found, its words are not looked up");
        }
        document = found;
    }

    Due due() {
        return due;
    }

    /** Tests a sentence in all versions. */
    void of(String section, String words, IntConsumer test) {
        of(section, words, 1, 8, test);
    }

    void narrow(String section, String words, IntConsumer test) {
        of(section, words, 1, 3, test);
    }

    void wide(String section, String words, IntConsumer test) {
        of(section, words, 4, 8, test);
    }

    void of(String section, String words, int from, int to, IntConsumer test) {
        if (document != null) {
            due.is("the document has, under " + section + ", \"" + words + "\"", document.quote(section, words), true);
        }
        for (int version = from; version <= to; version++) {
            due.about("[" + section + ": " + words + "] version " + version + ": ");
            test.accept(version);
        }
        due.about("");
    }

    /** A refused call: its answer, and that nothing is changed by it, neither in MEMORY nor beside it. */
    void refused(String call, int want, Supplier<ZObjects> story, ToIntFunction<ZObjects> act) {
        // A window of MEMORY for each story, since one is not used for more than 512 calls.
        for (int from = 0; from < 4096; from += WINDOW) {
            ZObjects plain = story.get();
            ZObjects refused = story.get();
            due.is(call, act.applyAsInt(refused), want);
            sameBytes("behind " + call, from, refused, plain);
            plain = story.get();
            refused = story.get();
            act.applyAsInt(refused);
            sameState("behind " + call, refused, plain);
            sameBytes("behind " + call + " and object()", from, refused, plain);
        }
    }

    private void sameBytes(String when, int from, ZObjects got, ZObjects want) {
        for (int a = from; a < from + WINDOW; a++) {
            due.is("peek(" + a + ") " + when, got.peek(a), want.peek(a));
        }
    }

    /** THE ROW, TOP, the number of objects and STRICT, which no byte tells. */
    private void sameState(String when, ZObjects got, ZObjects want) {
        due.is("count() " + when, got.count(), want.count());
        due.is("type(90, 1) " + when, got.type(90, 1), want.type(90, 1));
        due.is("object() " + when, got.object(), want.object());
        due.is("type(91, 1) " + when, got.type(91, 1), want.type(91, 1));
        due.is("strict(true) " + when, got.strict(true), want.strict(true));
    }

    /** Ends the test of these sections. */
    void end(String... sections) {
        if (document != null) {
            for (String section : sections) {
                due.is("what of " + section + " no test quotes", document.unquoted(section), "");
            }
        }
        due.end();
    }
}
