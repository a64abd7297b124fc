import java.io.IOException;
import java.nio.file.Path;

/** What the tests of boundaries share: each of them names the sentence that it looks at. */
abstract class Sentences extends Checks {
    static final String TERMS = "Terms";
    private static final Path PATH = Path.of("../shared/DOC.md");

    private static Document document;

    static void open() throws IOException {
        document = new Document(PATH);
    }

    /** From here on, what is due is due by these words, which have to stand in the document. */
    static void sentence(String heading, String words) {
        where = heading + ", \"" + words + "\"";
        due("the document", document.quote(heading, words) ? "has it" : "does not have it", "has it");
    }

    static void sentence(int promise, String words) {
        sentence("Promise " + promise, words);
    }

    static void dueAllQuoted() {
        where = "all sentences";
        for (String clause : document.unquoted()) {
            due(clause, "is not tested", "is tested");
        }
    }

    /** Numbers of drivers who are not there, of as many as are told. */
    static int[] strangers(int many) {
        return new int[] {LOW, LOW + 1, -256, -2, -1, many, many + 1, 5, 6, 255, 256, 65536, HIGH - 1, HIGH};
    }
}
