import java.io.IOException;
import java.nio.file.Path;

/** What the tests of boundaries share: each of them names the sentence that it looks at. */
abstract class Sentences extends Checks {
    static final String TERMS = "Terms";
    private static final Path PATH = Path.of("../shared/DOC.md");

    private static Document document;

    static void open() throws IOException {
        document = new Document(PATH);
    }

    /** From here on, what is due is due by these words, which have to stand in the document. */
    static void sentence(String heading, String words) {
        where = heading + ", \"" + words + "\"";
        due("the document", document.quote(heading, words) ? "has it" : "does not have it", "has it");
    }

    static void sentence(int promise, String words) {
        sentence("Promise " + promise, words);
    }

    static void dueAllQuoted() {
        where = "all sentences";
        for (String clause : document.unquoted()) {
            due(clause, "is not tested", "is tested");
        }
    }

    /** A call that names one driver. */
    interface CallOfOne {
        int answer(LogRaft x, int driver);
    }

    /** A call that names two drivers. */
    interface CallOfTwo {
        int answer(LogRaft x, int one, int other);
    }

    /** Calls a driver who is not there, in crews of each size that are led by driver 0. */
    static void dueOfStrangers(String call, CallOfOne made, int want) {
        for (int many = 0; many <= 5; many++) {
            LogRaft x = ledCrewOf(many);
            for (int stranger : strangers(many)) {
                due(call + " " + stranger + " of " + many, made.answer(x, stranger), want);
            }
        }
    }

    /** The same on either side, and on both. */
    static void dueOfStrangers(String call, CallOfTwo made, int want) {
        dueOfStrangers(call + " 0 and", (x, stranger) -> made.answer(x, 0, stranger), want);
        dueOfStrangers(call + " 0 behind", (x, stranger) -> made.answer(x, stranger, 0), want);
        dueOfStrangers(call + " twice", (x, stranger) -> made.answer(x, stranger, stranger), want);
    }

    private static LogRaft ledCrewOf(int many) {
        LogRaft x = crewOf(many);
        x.ask(0);
        x.shout(0, 'a');
        x.send(0);
        return x;
    }

    private static int[] strangers(int many) {
        return new int[] {LOW, LOW + 1, -256, -2, -1, many, many + 1, 5, 6, 255, 256, 65536, HIGH - 1, HIGH};
    }
}
