import java.io.IOException;
import java.nio.charset.StandardCharsets;
import java.nio.file.Files;
import java.nio.file.Path;
import java.util.ArrayList;
import java.util.List;
import java.util.TreeSet;

/**
 * Every sentence of the document's Terms and promises has a test of its own among the edges, or is one of the
 * few that name no edge; and the edges quote the document as it is.
 */
public final class DocumentTest {
    private static final Due DUE = new Due();
    private static final Path DOCUMENT = Path.of("../shared/DOC.md");
    // nothing in the document divides but with a rest; and every kind is told in full
    private static final List<String> NO_EDGE = List.of("Terms: Quotients are cut.", "Terms: (Others as the KIND above.)");

    public static void main(String[] args) throws IOException {
        TreeSet<String> tested = new TreeSet<>();
        List<Edges> edges = List.of(EdgesOfTermsTest.sentences(), EdgesOfPeopleTest.sentences(),
            EdgesOfMomentsTest.sentences(), EdgesOfBestTest.sentences(), EdgesOfTextTest.sentences(),
            EdgesOfSheetsTest.sentences(), EdgesOfImagesTest.sentences());
        for (Edges some : edges) {
            for (Edges.Sentence sentence : some.all()) {
                String name = sentence.where() + ": " + sentence.words();
                DUE.holds("it is tested once: " + name, tested.add(name));
            }
        }
        for (int promise = 1; promise <= 38; promise++) {
            String start = "Promise " + promise + ": ";
            DUE.holds(start + "has a test", tested.stream().anyMatch(name -> name.startsWith(start)));
        }
        if (Files.isReadable(DOCUMENT)) {
            compare(tested, sentencesOf(Files.readString(DOCUMENT, StandardCharsets.UTF_8)));
        } else {
            System.out.println("there is no " + DOCUMENT + " to compare with");
        }
        DUE.end();
    }

    private static void compare(TreeSet<String> tested, List<String> told) {
        DUE.holds("the document tells something", told.size() > 38);
        for (String sentence : told) {
            DUE.holds("it has a test of its own: " + sentence, tested.contains(sentence) || NO_EDGE.contains(sentence));
        }
        for (String sentence : tested) {
            DUE.holds("the document says so: " + sentence, told.contains(sentence));
        }
    }

    /** "Terms: .." and "Promise 7: .."; a full stop ends a sentence, but two of them (0, 1, ..) do not. */
    private static List<String> sentencesOf(String document) {
        List<String> all = new ArrayList<>();
        String where = "";
        for (String line : document.lines().map(String::strip).toList()) {
            if (line.startsWith("## ")) {
                where = line.substring(3).replaceFirst(":.*", "");
            } else if (where.matches("Terms|Promise \\d+") && !line.startsWith("```") && !line.startsWith("Ahead of")) {
                String plain = line.replaceFirst("^`[^`]*`: ", "").replaceFirst("^\\d\\. ", "");
                for (String sentence : plain.split("(?<=(?<!\\.)\\.\\)?)\\s+")) {
                    if (!sentence.isEmpty()) {
                        all.add(where + ": " + sentence);
                    }
                }
            }
        }
        return all;
    }
}
