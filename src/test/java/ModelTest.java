import java.util.ArrayList;
import java.util.Arrays;
import java.util.List;
import java.util.Random;

/**
 * Long runs of calls by a seeded source, each held against PlainHouse. Arguments are mostly such as
 * may be, often at an edge, now and then far off.
 */
public final class ModelTest {
    private static final Due DUE = new Due();
    private static final int RUNS = 500;
    private static final int CALLS = 512;
    private static final String[] WORDS = {"sitter", "cougher", "weeper", "sleeper", "claque", "widow", "fresh", "cue",
        "tense", "swap", "still", "sob", "laugh", "cough", "clap", ";", ";", "0", "1", "2", "7", "15", "16", "20",
        "21", "99", "100", "1000", "foo", "?", "  "};

    private final Random source;
    private final NotedHouse house = new NotedHouse();
    private final PlainHouse plain = new PlainHouse();
    private final List<String> told = new ArrayList<>();
    private int calls = 0;

    private ModelTest(long seed) {
        source = new Random(seed);
    }

    public static void main(String[] args) {
        for (int run = 1; run <= RUNS && !DUE.anyWrong(); run++) {
            ModelTest test = new ModelTest(run);
            test.run(run);
        }
        DUE.end();
    }

    private void run(int run) {
        int people = source.nextInt(9);
        for (int p = 0; p < people; p++) {
            ask(run, "person", source.nextInt(6));
        }
        while (calls < CALLS && !DUE.anyWrong()) {
            oneAct(run);
        }
        if (DUE.anyWrong()) {
            System.out.println("run " + run + ": the calls were");
            for (String call : told.subList(Math.max(0, told.size() - 60), told.size())) {
                System.out.println("  " + call);
            }
        }
    }

    private void ask(int run, String call, long... a) {
        if (calls >= CALLS) {
            return;
        }
        calls++;
        long got = answer(call, a);
        told.add(call + Arrays.toString(a) + " = " + got);
        DUE.is("run " + run + ", call " + calls + ": " + call + Arrays.toString(a), got, plain.ask(call, a));
    }

    /** One of least to most; sometimes an edge, sometimes one beyond, seldom anything. */
    private int in(int least, int most) {
        int luck = source.nextInt(40);
        if (luck == 0) {
            return source.nextBoolean() ? least - 1 : most + 1;
        }
        if (luck == 1) {
            return source.nextBoolean() ? Integer.MIN_VALUE : Integer.MAX_VALUE;
        }
        if (luck == 2) {
            return source.nextInt();
        }
        if (luck < 9) {
            return source.nextBoolean() ? least : most;
        }
        return least + source.nextInt(most - least + 1);
    }

    private int anyone() {
        return in(0, 4 + source.nextInt(4));
    }

    private int aNote() {
        return source.nextInt(3) > 0 ? in(-40, 400) : in(-9999, 9999);
    }

    private int fewMoments(int least, int most) {
        return source.nextBoolean() ? in(least, Math.min(most, 20)) : in(least, most);
    }

    private void oneAct(int run) {
        int act = source.nextInt(100);
        if (act < 45) {
            changePeopleOrPlay(run, source.nextInt(13));
        } else if (act < 62) {
            askAhead(run, source.nextInt(7));
        } else if (act < 74) {
            askWhatIsBest(run, source.nextInt(7));
        } else if (act < 80) {
            tellAText(run);
        } else if (act < 94) {
            useSheets(run, source.nextInt(8));
        } else {
            useImages(run, source.nextInt(6));
        }
    }

    private void changePeopleOrPlay(int run, int which) {
        switch (which) {
            case 0: ask(run, "play", in(0, 15), 0, in(0, 4)); break;
            case 1: ask(run, "play", in(0, 15), in(0, 1), in(0, 20)); break;
            case 2: ask(run, "now", in(0, 6)); break;
            case 3: ask(run, "person", in(0, 5)); break;
            case 4: ask(run, "of", anyone(), in(0, 5)); break;
            case 5: ask(run, "scores", anyone(), in(0, 4), in(0, 4)); break;
            case 6: ask(run, "set", anyone(), 1, in(0, 99)); break;
            case 7: ask(run, "set", anyone(), in(1, 3), in(0, 4)); break;
            case 8: ask(run, "set", anyone(), 2, aNote()); break;
            case 9: ask(run, "turn", anyone(), in(0, 5)); break;
            case 10: ask(run, "as", anyone(), in(0, 5)); break;
            case 11: ask(run, "swap", anyone(), anyone()); break;
            default: ask(run, "moments", fewMoments(1, 200)); break;
        }
    }

    private void askAhead(int run, int which) {
        switch (which) {
            case 0: ask(run, "note", anyone(), fewMoments(0, 400)); break;
            case 1: ask(run, "on", anyone(), fewMoments(0, 400), in(0, 1)); break;
            case 2: ask(run, "house", fewMoments(0, 400)); break;
            case 3: ask(run, "heard", fewMoments(1, 400), in(0, 4)); break;
            case 4: ask(run, "does", anyone(), in(0, 4)); break;
            case 5: ask(run, "comes", anyone(), aNote()); break;
            default: ask(run, "best", fewMoments(0, 400)); break;
        }
    }

    private void askWhatIsBest(int run, int which) {
        switch (which) {
            case 0: ask(run, "place", anyone(), fewMoments(1, 100)); break;
            case 1: ask(run, "kind", anyone(), fewMoments(1, 100)); break;
            case 2: ask(run, "fresh", anyone(), fewMoments(1, 100), aNote()); break;
            case 3: ask(run, "cue", fewMoments(1, 60)); break;
            case 4: ask(run, "doze", fewMoments(1, 100)); break;
            case 5: ask(run, "place", anyone(), in(1, 4)); break;
            default: ask(run, "tense", fewMoments(1, 100), aNote()); break;
        }
    }

    private void tellAText(int run) {
        StringBuilder text = new StringBuilder();
        int items = source.nextInt(4);
        for (int i = 0; i <= items; i++) {
            text.append(i > 0 ? ";" : "").append(source.nextInt(12) == 0 ? words() : item());
        }
        if (source.nextInt(8) == 0) {
            text.setCharAt(source.nextInt(text.length()), (char) source.nextInt(256));
        }
        feed(run, text.toString());
        int luck = source.nextInt(12);
        if (luck == 0) {
            ask(run, "wipe");
        } else if (luck > 2) {
            ask(run, "evening");
        }
    }

    private String item() {
        switch (source.nextInt(5)) {
            case 0: return WORDS[source.nextInt(6)];
            case 1: return WORDS[source.nextInt(6)] + " fresh " + in(0, 99);
            case 2: return "cue " + in(0, 15) + " " + WORDS[10 + source.nextInt(5)];
            case 3: return "tense " + in(0, 15) + " " + in(0, 20);
            default: return "swap " + in(0, 3) + " " + in(4, 7);
        }
    }

    private String words() {
        StringBuilder text = new StringBuilder("x");
        text.setLength(0);
        int n = 1 + source.nextInt(5);
        for (int i = 0; i < n; i++) {
            text.append(WORDS[source.nextInt(WORDS.length)]).append(source.nextBoolean() ? " " : "");
        }
        return text.toString();
    }

    private void feed(int run, String text) {
        int from = 0;
        while (from < text.length()) {
            int n = Math.min(text.length() - from, 1 + source.nextInt(4));
            int word = source.nextInt();
            for (int i = 0; i < n; i++) {
                word = word << 8 | text.charAt(from + i);
            }
            ask(run, "feed", word, n);
            from += n;
        }
        if (source.nextInt(10) == 0) {
            ask(run, "feed", source.nextInt(), in(1, 4));
        }
    }

    private void useSheets(int run, int which) {
        int[] bits = {0, 8, 16, 64, 8, 16, 64, 32};
        switch (which) {
            case 0: ask(run, "sheet", in(0, 3), bits[source.nextInt(8)], in(0, source.nextBoolean() ? 40 : 6)); break;
            case 1: ask(run, "write", in(0, 3), in(0, 6), source.nextLong() >> source.nextInt(64)); break;
            case 2: ask(run, "write", in(0, 3), in(0, 8), source.nextInt(200) - 50); break;
            case 3: ask(run, "copy", in(0, 3), in(0, 5), in(0, 3), in(0, 5), in(0, 4)); break;
            case 4: ask(run, "lays", in(0, 3)); break;
            case 5: ask(run, "book", in(0, 3), anyone()); break;
            case 6: ask(run, "read", in(0, 3), anyone()); break;
            default: bookThenRead(run); break;
        }
    }

    private void bookThenRead(int run) {
        int s = source.nextInt(4);
        int p = anyone();
        ask(run, "sheet", s, 8, in(0, source.nextBoolean() ? 40 : 8));
        ask(run, "book", s, p);
        ask(run, "read", s, p);
    }

    private void useImages(int run, int which) {
        switch (which) {
            case 0: ask(run, "image"); break;
            case 1: ask(run, "undo"); break;
            case 2: if (source.nextInt(4) == 0) { ask(run, "tear"); } break;
            case 3: ask(run, "count", in(0, 3)); break;
            default: ask(run, "status", in(-1, 6)); break;
        }
    }

    private long answer(String call, long[] wide) {
        int[] a = new int[5];
        for (int i = 0; i < wide.length; i++) {
            a[i] = (int) wide[i];
        }
        switch (call) {
            case "play": return house.play(a[0], a[1], a[2]);
            case "now": return house.now(a[0]);
            case "person": return house.person(a[0]);
            case "of": return house.of(a[0], a[1]);
            case "scores": return house.scores(a[0], a[1], a[2]);
            case "set": return house.set(a[0], a[1], a[2]);
            case "turn": return house.turn(a[0], a[1]);
            case "as": return house.as(a[0], a[1]);
            case "swap": return house.swap(a[0], a[1]);
            case "moments": return house.moments(a[0]);
            case "note": return house.note(a[0], a[1]);
            case "on": return house.on(a[0], a[1], a[2]);
            case "house": return house.house(a[0]);
            case "heard": return house.heard(a[0], a[1]);
            case "does": return house.does(a[0], a[1]);
            case "comes": return house.comes(a[0], a[1]);
            case "place": return house.place(a[0], a[1]);
            case "kind": return house.kind(a[0], a[1]);
            case "fresh": return house.fresh(a[0], a[1], a[2]);
            case "cue": return house.cue(a[0]);
            case "doze": return house.doze(a[0]);
            case "tense": return house.tense(a[0], a[1]);
            case "best": return house.best(a[0]);
            case "feed": return house.feed(a[0], a[1]);
            case "wipe": return house.wipe();
            case "evening": return house.evening();
            case "sheet": return house.sheet(a[0], a[1], a[2]);
            case "write": return house.write(a[0], a[1], wide[2]);
            case "copy": return house.copy(a[0], a[1], a[2], a[3], a[4]);
            case "lays": return house.lays(a[0]);
            case "book": return house.book(a[0], a[1]);
            case "read": return house.read(a[0], a[1]);
            case "image": return house.image();
            case "undo": return house.undo();
            case "tear": return house.tear();
            case "count": return house.count(a[0]);
            case "status": return house.status(a[0]);
            default: throw new IllegalArgumentException(call);
        }
    }
}
