import java.io.IOException;
import java.nio.file.Files;
import java.nio.file.Path;
import java.util.ArrayList;
import java.util.BitSet;
import java.util.LinkedHashMap;
import java.util.List;
import java.util.Map;

/** The document by its headings, and what the tests have quoted from it. */
final class Document {
    /** A paragraph or a point of a list, on one line. */
    private static final class Block {
        final String text;
        final BitSet quoted = new BitSet();

        Block(String text) {
            this.text = text;
        }
    }

    private final Map<String, List<Block>> sections = new LinkedHashMap<>();

    Document(Path path) throws IOException {
        for (String part : Files.readString(path).split("(?m)^## ")) {
            int end = part.indexOf('\n');
            String heading = part.substring(0, end).replaceAll(":.*", "");
            List<Block> blocks = new ArrayList<>();
            for (String block : part.substring(end).split("\n\n|\n- ")) {
                blocks.add(new Block(block.replaceAll("\\s+", " ").replaceFirst("^ ?(- )?", "").trim()));
            }
            sections.put(heading, blocks);
        }
    }

    /** Returns whether these words stand under this heading. */
    boolean quote(String heading, String words) {
        boolean isFound = false;
        for (Block block : sections.getOrDefault(heading, List.of())) {
            int at = block.text.indexOf(words);
            if (at >= 0) {
                block.quoted.set(at, at + words.length());
                isFound = true;
            }
        }
        return isFound;
    }

    /** The clauses of the terms and the promises of which no word was quoted. */
    List<String> unquoted() {
        List<String> found = new ArrayList<>();
        for (Map.Entry<String, List<Block>> section : sections.entrySet()) {
            if (section.getKey().equals("Terms") || section.getKey().startsWith("Promise ")) {
                for (Block block : section.getValue()) {
                    addUnquoted(section.getKey(), block, found);
                }
            }
        }
        return found;
    }

    private static void addUnquoted(String heading, Block block, List<String> found) {
        int start = 0;
        for (String clause : block.text.split("(?<=[.;]) ")) {
            int end = start + clause.length();
            int mark = block.quoted.nextSetBit(start);
            boolean isQuoted = mark >= 0 && mark < end;
            // What only names a method or a parameter has no boundary.
            boolean isName = clause.startsWith("`") && !clause.matches(".*[0-9].*");
            if (!isQuoted && !isName && !clause.isEmpty()) {
                found.add(heading + ": " + clause);
            }
            start = end + 1;
        }
    }
}
