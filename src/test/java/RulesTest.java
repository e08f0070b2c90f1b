import java.io.IOException;
import java.lang.management.ManagementFactory;
import java.lang.reflect.Field;
import java.lang.reflect.Method;
import java.lang.reflect.Modifier;
import java.nio.charset.StandardCharsets;
import java.nio.file.Files;
import java.nio.file.Path;
import java.util.Arrays;
import java.util.List;
import java.util.TreeSet;
import java.util.regex.Matcher;
import java.util.regex.Pattern;

/** The rules of LANGUAGE.md that can be looked at from outside: the face, the words, the room. */
public final class RulesTest {
    private static final Due DUE = new Due();
    private static final List<String> FACE = List.of(
        "int play(int,int,int)", "int now(int)", "int person(int)", "int of(int,int)", "int scores(int,int,int)",
        "int set(int,int,int)", "int turn(int,int)", "int as(int,int)", "int swap(int,int)", "int moments(int)",
        "int note(int,int)", "int on(int,int,int)", "int house(int)", "int heard(int,int)", "int does(int,int)",
        "int comes(int,int)", "int place(int,int)", "int kind(int,int)", "int fresh(int,int,int)", "int cue(int)",
        "int doze(int)", "int tense(int,int)", "int best(int)", "int feed(int,int)", "int wipe()", "int evening()",
        "int sheet(int,int,int)", "long write(int,int,long)", "int copy(int,int,int,int,int)", "int lays(int)",
        "int book(int,int)", "int read(int,int)", "int image()", "int undo()", "int tear()", "int count(int)",
        "int status(int)");
    private static final List<String> FORBIDDEN = List.of("\\bthrow\\b", "\\bthrows\\b", "\\btry\\b", "\\bcatch\\b",
        "\\bfinally\\b", "\\bsynchronized\\b", "\\bassert\\b", "\\bprotected\\b", "\\bpackage\\b", "\\bimport\\b",
        "->", "::", "\\bvar\\b", "\\bstatic\\s*\\{", "Exact\\b", "\\bhashCode\\b", "\\btoString\\b", "\\bThread\\b",
        "\\bSystem\\.(?!arraycopy\\b)", "\\bMath\\.(?!max\\b|min\\b)", "\\[\\]\\s*\\[\\]", "\\bwhile \\(true\\)", "\\bfor \\(;;\\)");
    // the types with a name of their own that the class may use: its own, and of the library what it needs
    private static final TreeSet<String> TYPES =
        new TreeSet<>(List.of("NotedHouse", "House", "Sheet", "Text", "String", "Math", "System"));
    private static final int MOST_LINES = 60;

    public static void main(String[] args) throws IOException {
        theFace();
        theWords(Path.of("src/main/java/NotedHouse.java"));
        theRoom();
        DUE.end();
    }

    private static void theFace() {
        Class<?> c = NotedHouse.class;
        DUE.holds("the class is public and final", Modifier.isPublic(c.getModifiers())
            && Modifier.isFinal(c.getModifiers()) && c.getPackageName().isEmpty());
        DUE.holds("one public constructor", c.getDeclaredConstructors().length == 1
            && Modifier.isPublic(c.getDeclaredConstructors()[0].getModifiers())
            && c.getDeclaredConstructors()[0].getParameterCount() == 0);
        TreeSet<String> open = new TreeSet<>();
        TreeSet<String> names = new TreeSet<>();
        for (Method m : c.getDeclaredMethods()) {
            if (Modifier.isPublic(m.getModifiers())) {
                open.add(signature(m));
                names.add(m.getName());
            } else {
                DUE.holds(m.getName() + " is private", Modifier.isPrivate(m.getModifiers()));
            }
        }
        DUE.holds("the public methods are those of the document: " + open, open.equals(new TreeSet<>(FACE)));
        namesAreApart(c, names);
        for (Class<?> inside : c.getDeclaredClasses()) {
            DUE.holds(inside + " is static", Modifier.isStatic(inside.getModifiers()));
            DUE.holds(inside + " is not public", !Modifier.isPublic(inside.getModifiers()));
            namesAreApart(inside, names);
        }
    }

    private static String signature(Method m) {
        StringBuilder text = new StringBuilder(m.getReturnType() + " " + m.getName() + "(");
        String between = "";
        for (Class<?> type : m.getParameterTypes()) {
            text.append(between).append(type);
            between = ",";
        }
        return text.append(")").toString();
    }

    private static void namesAreApart(Class<?> c, TreeSet<String> names) {
        for (Method m : c.getDeclaredMethods()) {
            DUE.holds(m + " has a name of its own", Modifier.isPublic(m.getModifiers()) || !names.contains(m.getName()));
            DUE.holds(m + " takes seven at most", m.getParameterCount() <= 7);
        }
        int fields = 0;
        for (Field f : c.getDeclaredFields()) {
            boolean still = Modifier.isStatic(f.getModifiers());
            fields += still ? 0 : 1;
            DUE.holds(f + " is private", Modifier.isPrivate(f.getModifiers()));
            DUE.holds(f + " is final if it is static", !still || Modifier.isFinal(f.getModifiers()));
        }
        DUE.holds(c + " has twenty fields at most", fields <= 20);
    }

    private static void theWords(Path file) throws IOException {
        String source = Files.readString(file, StandardCharsets.UTF_8)
            .replaceAll("(?s)/\\*.*?\\*/", " ").replaceAll("//[^\\n]*", " ").replaceAll("\"[^\"\\n]*\"", "\"\"");
        for (String word : FORBIDDEN) {
            DUE.holds("no " + word, !Pattern.compile(word).matcher(source).find());
        }
        DUE.holds("its signs are 1 to 127", Files.readString(file, StandardCharsets.ISO_8859_1).chars()
            .allMatch(sign -> sign >= 1 && sign <= 127));
        Matcher type = Pattern.compile("\\b[A-Z]+[a-z]\\w*").matcher(source);
        while (type.find()) {
            DUE.holds(type.group() + " is a type that may be used", TYPES.contains(type.group()));
        }
        methodsAreShort(source.lines().toList());
    }

    /** A method ends at the first brace that stands where its own line begins. */
    private static void methodsAreShort(List<String> lines) {
        int methods = 0;
        for (int from = 0; from < lines.size(); from++) {
            String line = lines.get(from);
            if (line.matches(" +(public|private)[^=;]*\\) \\{")) {
                String end = line.substring(0, line.indexOf('p')) + "}";
                int to = from + lines.subList(from, lines.size()).indexOf(end);
                DUE.holds(line.strip() + " has sixty lines at most", to > from && to - from < MOST_LINES);
                methods++;
            }
        }
        DUE.holds("the methods are looked at: " + methods, methods > FACE.size());
    }

    /** Calls make nothing: whatever is asked, all rows were made with the object. */
    private static void theRoom() {
        com.sun.management.ThreadMXBean threads =
            (com.sun.management.ThreadMXBean) ManagementFactory.getThreadMXBean();
        NotedHouse x = Due.houseOf(0, 1, 2, 3, 4, 5, 0);
        x.image();
        int[] text = "widow fresh 9;cue 3 sob;tense 4 5;swap 0 1".chars().toArray();
        for (int i = 0; i < 3; i++) {
            everyCall(x, text);
        }
        long before = threads.getCurrentThreadAllocatedBytes();
        for (int i = 0; i < 5; i++) {
            everyCall(x, text);
        }
        long made = threads.getCurrentThreadAllocatedBytes() - before;
        DUE.holds("calls make nothing (" + made + " bytes)", made < 4096);
        before = threads.getCurrentThreadAllocatedBytes();
        NotedHouse[] many = new NotedHouse[100];
        Arrays.setAll(many, i -> new NotedHouse());
        made = threads.getCurrentThreadAllocatedBytes() - before;
        DUE.holds("an object is small (" + made / 100 + " bytes)", made / 100 < 8192);
    }

    private static void everyCall(NotedHouse x, int[] text) {
        x.play(1, 0, 1);
        for (int i = 0; i < 7; i++) {
            x.now(i);
            x.of(i, i);
            x.scores(i, i, 0);
            x.set(i, 1, 50);
            x.turn(i, i);
            x.as(i, i);
        }
        x.swap(0, 1);
        x.moments(200);
        x.note(0, 400);
        x.on(0, 400, 0);
        x.house(400);
        x.heard(400, 0);
        x.does(0, 3);
        x.comes(0, 9999);
        x.place(0, 100);
        x.kind(0, 100);
        x.fresh(0, 100, 9999);
        x.cue(60);
        x.doze(100);
        x.tense(100, 9999);
        x.best(400);
        for (int b : text) {
            x.feed(b, 1);
        }
        x.evening();
        x.undo();
        x.wipe();
        x.sheet(0, 8, 40);
        x.sheet(1, 8, 40);
        x.write(0, 0, 1);
        x.copy(0, 0, 1, 0, 40);
        x.book(0, 0);
        x.read(0, 0);
        x.lays(0);
        x.image();
        x.tear();
        x.image();
        x.count(0);
        x.status(9);
    }
}
