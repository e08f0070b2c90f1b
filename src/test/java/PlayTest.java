/** Promises 1 to 3: a new object, play, now. */
public final class PlayTest {
    private static final Due DUE = new Due();

    public static void main(String[] args) {
        aNewObject();
        objectsAreApart();
        playTellsWhatItWas();
        playBeyond();
        nowFollowsTheMoment();
        nowOfPeople();
        DUE.end();
    }

    private static void aNewObject() {
        NotedHouse x = new NotedHouse();
        int[] now = {0, 0, 0, 5, 10000, 0, 0};
        for (int what = 0; what < now.length; what++) {
            DUE.is("new: now(" + what + ")", x.now(what), now[what]);
        }
        int[] count = {0, 0, 80, 0};
        for (int what = 0; what < count.length; what++) {
            DUE.is("new: count(" + what + ")", x.count(what), count[what]);
        }
        for (int which = -1; which < 7; which++) {
            DUE.is("new: status(" + which + ")", x.status(which), 0);
        }
        DUE.is("new: wipe()", x.wipe(), 0);
        DUE.is("new: tear()", x.tear(), 0);
        DUE.is("new: undo()", x.undo(), Due.NONE);
        for (int s = 0; s < 4; s++) {
            DUE.is("new: lays(" + s + ")", x.lays(s), Due.MISSING);
        }
        DUE.is("new: of(0, 0)", x.of(0, 0), Due.BEYOND);
        for (int moment = 0; moment < 16; moment++) {
            DUE.is("new: cue of " + moment, x.play(moment, 0, 0), moment % 5);
            DUE.is("new: tense of " + moment, x.play(moment, 1, 0), 5);
        }
    }

    private static void objectsAreApart() {
        NotedHouse x = new NotedHouse();
        NotedHouse y = new NotedHouse();
        x.person(0);
        x.play(3, 0, 0);
        x.play(3, 1, 9);
        x.image();
        x.sheet(0, 8, 3);
        x.feed(1, 1);
        x.now(99);
        DUE.is("apart: count(0)", y.count(0), 0);
        DUE.is("apart: count(1)", y.count(1), 0);
        DUE.is("apart: count(2)", y.count(2), 80);
        DUE.is("apart: status(-1)", y.status(-1), 0);
        DUE.is("apart: tear()", y.tear(), 0);
        DUE.is("apart: lays(0)", y.lays(0), Due.MISSING);
        DUE.is("apart: play(3, 0, 0)", y.play(3, 0, 0), 3);
    }

    private static void playTellsWhatItWas() {
        NotedHouse x = new NotedHouse();
        DUE.is("play(15, 0, 4)", x.play(15, 0, 4), 0);
        DUE.is("play(15, 0, 0)", x.play(15, 0, 0), 4);
        DUE.is("play(15, 0, 0) again", x.play(15, 0, 0), 0);
        DUE.is("play(0, 1, 20)", x.play(0, 1, 20), 5);
        DUE.is("play(0, 1, 0)", x.play(0, 1, 0), 20);
        DUE.is("play(0, 1, 0) again", x.play(0, 1, 0), 0);
        DUE.is("the cue of 0 is left", x.play(0, 0, 0), 0);
        DUE.is("the tense of 1 is left", x.play(1, 1, 5), 5);
        DUE.is("count(2)", x.count(2), 75);
    }

    private static void playBeyond() {
        int[][] bad = {{-1, 0, 0}, {16, 0, 0}, {-1, 1, 0}, {16, 1, 0}, {0, -1, 0}, {0, 2, 0}, {0, 0, -1},
            {0, 0, 5}, {0, 1, -1}, {0, 1, 21}, {Integer.MIN_VALUE, 0, 0}, {Integer.MAX_VALUE, 1, 0},
            {0, Integer.MIN_VALUE, 0}, {0, Integer.MAX_VALUE, 0}, {0, 0, Integer.MIN_VALUE},
            {0, 1, Integer.MAX_VALUE}, {16, 2, 21}};
        NotedHouse x = new NotedHouse();
        for (int i = 0; i < bad.length; i++) {
            int[] b = bad[i];
            DUE.is("play(" + b[0] + ", " + b[1] + ", " + b[2] + ")", x.play(b[0], b[1], b[2]), Due.BEYOND);
        }
        DUE.is("beyond: status(0)", x.status(0), bad.length);
        for (int moment = 0; moment < 16; moment++) {
            DUE.is("beyond: cue of " + moment, x.play(moment, 0, 0), moment % 5);
        }
        DUE.is("beyond: count(2)", x.count(2), 80);
    }

    private static void nowFollowsTheMoment() {
        NotedHouse x = new NotedHouse();
        for (int moment = 0; moment < 16; moment++) {
            x.play(moment, 1, moment + 1);
        }
        for (int n = 0; n < 40; n++) {
            DUE.is("after " + n + ": now(0)", x.now(0), n / 16);
            DUE.is("after " + n + ": now(1)", x.now(1), n % 16);
            DUE.is("after " + n + ": now(2)", x.now(2), n % 16 % 5);
            DUE.is("after " + n + ": now(3)", x.now(3), n % 16 + 1);
            x.moments(1);
        }
        DUE.is("now(-1)", x.now(-1), Due.BEYOND);
        DUE.is("now(7)", x.now(7), Due.BEYOND);
        DUE.is("now(least)", x.now(Integer.MIN_VALUE), Due.BEYOND);
        DUE.is("now(most)", x.now(Integer.MAX_VALUE), Due.BEYOND);
    }

    private static void nowOfPeople() {
        NotedHouse x = Due.houseOf(0, 0, 0, 0, 0, 0, 0, 0);
        DUE.is("eight: now(5)", x.now(5), 255);
        DUE.is("eight: now(6)", x.now(6), 480);
        x.turn(7, Due.WEEPER);
        x.turn(0, Due.WEEPER);
        DUE.is("two sob: now(5)", x.now(5), 126);
        x.play(0, 0, 1);
        DUE.is("a sob is asked: now(5)", x.now(5), 255);
        x.set(3, 1, 4);
        DUE.is("one is tired: now(5)", x.now(5), 247);
        DUE.is("one is tired: now(6)", x.now(6), 424);
        for (int p = 0; p < 8; p++) {
            x.set(p, 2, -9999);
        }
        DUE.is("least: now(4)", x.now(4), 10000 - 8 * 9999);
        for (int p = 0; p < 8; p++) {
            x.set(p, 2, 9999);
        }
        DUE.is("most: now(4)", x.now(4), 10000 + 8 * 9999);
        x.set(5, 2, -7);
        DUE.is("one less: now(4)", x.now(4), 10000 + 7 * 9999 - 7);
    }
}
