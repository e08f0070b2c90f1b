import java.nio.charset.StandardCharsets;

/** Counts and prints the calls whose answer is not the one that is due. */
final class Due {
    static final int BEYOND = -1000000001;
    static final int FULL = -1000000002;
    static final int KIND = -1000000003;
    static final int NONE = -1000000004;
    static final int STATE = -1000000005;
    static final int MISSING = -1000000006;
    static final int SIZE = -1000000007;

    static final int SITTER = 0;
    static final int COUGHER = 1;
    static final int WEEPER = 2;
    static final int SLEEPER = 3;
    static final int CLAQUE = 4;
    static final int WIDOW = 5;

    private static final int MOST_PRINTED = 50;

    private int asked = 0;
    private int wrong = 0;

    void is(String what, long got, long want) {
        asked++;
        if (got != want) {
            wrong++;
            if (wrong <= MOST_PRINTED) {
                System.out.println(what + " answered " + got + ", due is " + want);
            }
        }
    }

    void holds(String what, boolean good) {
        is(what, good ? 1 : 0, 1);
    }

    boolean anyWrong() {
        return wrong > 0;
    }

    int asked() {
        return asked;
    }

    int wrong() {
        return wrong;
    }

    void end() {
        System.out.println(asked + " answers asked, " + wrong + " not as due");
        if (wrong > 0 || asked == 0) {
            System.exit(1);
        }
    }

    /** A house with one person of each of these kinds, in this order. */
    static NotedHouse houseOf(int... kinds) {
        NotedHouse x = new NotedHouse();
        for (int kind : kinds) {
            x.person(kind);
        }
        return x;
    }

    /** The cue of every moment becomes q, and its tense t. */
    static void playAll(NotedHouse x, int q, int t) {
        for (int moment = 0; moment < 16; moment++) {
            x.play(moment, 0, q);
            x.play(moment, 1, t);
        }
    }

    /** Puts a text's bytes (characters 0 to 255) on the tape, four at a time. */
    static void feed(NotedHouse x, String text) {
        byte[] bytes = text.getBytes(StandardCharsets.ISO_8859_1);
        for (int from = 0; from < bytes.length; from += 4) {
            int n = Math.min(4, bytes.length - from);
            int word = 0;
            for (int i = 0; i < n; i++) {
                word = word << 8 | bytes[from + i] & 255;
            }
            x.feed(word, n);
        }
    }

    static int told(NotedHouse x, String text) {
        feed(x, text);
        return x.evening();
    }
}
