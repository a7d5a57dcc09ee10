import java.io.IOException;
import java.nio.file.Files;
import java.nio.file.Path;
import java.util.ArrayList;
import java.util.LinkedHashMap;
import java.util.List;
import java.util.Map;

/** The sentences of the document, by their headings, and which of them have been quoted by tests. */
final class Doc {
    private static final Path FILE = Path.of("../shared/DOC.md");
    private static final Map<String, List<String>> SENTENCES = new LinkedHashMap<>();
    private static final List<String> QUOTED = new ArrayList<>();
    private static int askedBefore = -1;

    private Doc() {
    }

    /**
     * Begins the test of a sentence: the document must hold the quoted words under this heading,
     * and the test before must have asked something.
     */
    static void says(String heading, String quote) {
        closeTest();
        Due.about(heading + ": \"" + quote + "\"");
        int found = 0;
        for (String sentence : SENTENCES.getOrDefault(heading, List.of())) {
            if (sentence.contains(quote)) {
                QUOTED.add(heading + ": " + sentence);
                found++;
            }
        }
        Due.be("the document holds these words", found > 0 || SENTENCES.isEmpty() ? 1 : 0, 1);
        askedBefore = Due.asked();
    }

    private static void closeTest() {
        if (askedBefore >= 0 && askedBefore == Due.asked()) {
            Due.be("a test that asks nothing", 0, 1);
        }
    }

    /** Each sentence is quoted, or is among those that name nothing to be tested by its own. */
    static void finish(List<String> others) {
        closeTest();
        Due.about("");
        List<String> left = new ArrayList<>(SENTENCES.isEmpty() ? List.of() : others);
        SENTENCES.forEach((heading, sentences) -> {
            for (String sentence : sentences) {
                boolean isOther = left.remove(heading + ": " + sentence);
                boolean isQuoted = QUOTED.contains(heading + ": " + sentence);
                Due.be("tests for \"" + heading + ": " + sentence + "\"", isQuoted || isOther ? 1 : 0, 1);
            }
        });
        for (String sentence : left) {
            Due.be("sentences of the document like \"" + sentence + "\"", 0, 1);
        }
    }

    /** Without the document, the tests run all the same, and only the quotes are not compared. */
    static void read() throws IOException {
        if (!Files.exists(FILE)) {
            System.out.println("no " + FILE + ": the quotes are not compared with the document");
            return;
        }
        String text = Files.readString(FILE).replaceAll("(?s)```.*?```", "");
        String heading = "";
        StringBuilder block = new StringBuilder();
        for (String line : (text + "\n\n").split("\n", -1)) {
            if (line.isBlank() || line.startsWith("#") || isItem(line)) {
                addBlock(heading, block);
            }
            if (line.startsWith("#")) {
                heading = line.replaceAll("^#+ ", "").replaceAll(":.*", "");
            } else {
                block.append(line.strip()).append(' ');
            }
        }
    }

    private static boolean isItem(String line) {
        return line.matches("- .*|  (\\d|protected)[,:].*");
    }

    /** A signature is no sentence, nor is a word that begins a paragraph. */
    private static void addBlock(String heading, StringBuilder block) {
        for (String sentence : block.toString().strip().split("(?<=[.]) (?=[A-Z`])")) {
            if (!sentence.isEmpty() && !sentence.matches("`[^`]*`|\\w+[.]")) {
                SENTENCES.computeIfAbsent(heading, key -> new ArrayList<>()).add(sentence);
            }
        }
        block.setLength(0);
    }
}
