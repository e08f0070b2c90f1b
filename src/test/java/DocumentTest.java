import java.io.IOException;
import java.lang.reflect.Constructor;
import java.lang.reflect.Method;
import java.lang.reflect.Modifier;
import java.nio.charset.StandardCharsets;
import java.nio.file.Files;
import java.nio.file.Path;
import java.util.ArrayList;
import java.util.List;
import java.util.TreeSet;
import java.util.regex.Matcher;
import java.util.regex.Pattern;

/**
 * The class has the document's face, in its order and under its headings. Every sentence of the document's Terms
 * and promises has a test of its own among the edges, or is one of the few that name no edge; and the edges quote
 * the document as it is.
 */
public final class DocumentTest {
    private static final Due DUE = new Due();
    private static final Path DOCUMENT = Path.of("../shared/DOC.md");
    private static final Path CLASS = Path.of("src/main/java/NotedHouse.java");
    // nothing in the document divides but with a rest; and every kind is told in full
    private static final List<String> NO_EDGE = List.of("Terms: Quotients are cut.", "Terms: (Others as the KIND above.)");

    public static void main(String[] args) throws IOException {
        TreeSet<String> tested = new TreeSet<>();
        List<Edges> edges = List.of(EdgesOfTermsTest.sentences(), EdgesOfPeopleTest.sentences(),
            EdgesOfMomentsTest.sentences(), EdgesOfBestTest.sentences(), EdgesOfTextTest.sentences(),
            EdgesOfSheetsTest.sentences(), EdgesOfImagesTest.sentences());
        for (Edges some : edges) {
            for (Edges.Sentence sentence : some.all()) {
                String name = sentence.where() + ": " + sentence.words();
                DUE.holds("it is tested once: " + name, tested.add(name));
            }
        }
        for (int promise = 1; promise <= 38; promise++) {
            String start = "Promise " + promise + ": ";
            DUE.holds(start + "has a test", tested.stream().anyMatch(name -> name.startsWith(start)));
        }
        if (Files.isReadable(DOCUMENT)) {
            String document = Files.readString(DOCUMENT, StandardCharsets.UTF_8);
            compare(tested, sentencesOf(document));
            theFace(document);
            theHeadings(document, Files.readString(CLASS, StandardCharsets.UTF_8));
        } else {
            System.out.println("there is no " + DOCUMENT + " to compare with");
        }
        DUE.end();
    }

    private static void compare(TreeSet<String> tested, List<String> told) {
        DUE.holds("the document tells something", told.size() > 38);
        for (String sentence : told) {
            DUE.holds("it has a test of its own: " + sentence, tested.contains(sentence) || NO_EDGE.contains(sentence));
        }
        for (String sentence : tested) {
            DUE.holds("the document says so: " + sentence, told.contains(sentence));
        }
    }

    /** The rows of the public face that end in a semicolon are just the public members that there are. */
    private static void theFace(String document) {
        TreeSet<String> told = new TreeSet<>();
        Matcher row = Pattern.compile("(?m)^    (public [^;]*\\));$").matcher(document);
        while (row.find()) {
            told.add(row.group(1).replaceAll("(int|long) \\w+(?=[,)])", "$1"));
        }
        TreeSet<String> open = new TreeSet<>();
        for (Constructor<?> made : NotedHouse.class.getDeclaredConstructors()) {
            open.add(made.toString().replace(",", ", "));
        }
        for (Method method : NotedHouse.class.getDeclaredMethods()) {
            if (!Modifier.isPrivate(method.getModifiers())) {
                open.add(method.toString().replace("NotedHouse.", "").replace(",", ", "));
            }
        }
        DUE.is("rows of the face", told.size(), 38);
        DUE.holds("the face is " + told + ": " + open, told.equals(open));
    }

    /** What "the interface says" ahead of calls stands in the class ahead of these, and of these alone. */
    private static void theHeadings(String document, String source) {
        List<String> told = new ArrayList<>();
        Matcher heading = Pattern.compile("(?m)^Ahead of the calls (.*) the interface says: (---- .*)\\.$").matcher(document);
        while (heading.find()) {
            told.add(heading.group(2));
            told.addAll(List.of(heading.group(1).replace("`", "").split(", ")));
        }
        List<String> stand = new ArrayList<>();
        Matcher found = Pattern.compile("(?m)^    (?:// (---- .*)|public (?:int|long) (\\w+)\\(.*)$").matcher(source);
        while (found.find()) {
            stand.add(found.group(1) != null ? found.group(1) : found.group(2));
        }
        DUE.holds("the document tells headings", told.size() > 38);
        DUE.holds("the class stands under them: " + told + ": " + stand,
            stand.size() >= told.size() && stand.subList(0, told.size()).equals(told));
        DUE.holds("no call stands behind them", stand.stream().skip(told.size()).allMatch(name -> name.startsWith("----")));
    }

    /** "Terms: .." and "Promise 7: .."; a full stop ends a sentence, but two of them (0, 1, ..) do not. */
    private static List<String> sentencesOf(String document) {
        List<String> all = new ArrayList<>();
        String where = "";
        for (String line : document.lines().map(String::strip).toList()) {
            if (line.startsWith("## ")) {
                where = line.substring(3).replaceFirst(":.*", "");
            } else if (where.matches("Terms|Promise \\d+") && !line.startsWith("```") && !line.startsWith("Ahead of")) {
                String plain = line.replaceFirst("^`[^`]*`: ", "").replaceFirst("^\\d\\. ", "");
                for (String sentence : plain.split("(?<=(?<!\\.)\\.\\)?)\\s+")) {
                    if (!sentence.isEmpty()) {
                        all.add(where + ": " + sentence);
                    }
                }
            }
        }
        return all;
    }
}
