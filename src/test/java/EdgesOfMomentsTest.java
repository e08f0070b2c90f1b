/** The edges that promises 11 to 17 name: moments, note, on, house, heard, does, comes. */
public final class EdgesOfMomentsTest {
    private static final Due DUE = new Due();

    public static void main(String[] args) {
        sentences().run(DUE);
    }

    static Edges sentences() {
        return new Edges()
            .says("Promise 11", "n MOMENTS go (1 to 200): MOMENT then.", EdgesOfMomentsTest::momentsGo)
            .says("Promise 11", "BEYOND.", EdgesOfMomentsTest::momentsBeyond)
            .says("Promise 11", "STATE: NIGHT would be above 9999.", EdgesOfMomentsTest::theLastNight)
            .says("Promise 12", "NOTE of one ON n MOMENTS (0 to 400).", EdgesOfMomentsTest::noteOn)
            .says("Promise 12", "BEYOND.", EdgesOfMomentsTest::noteBeyond)
            .says("Promise 13", "FRESH (what 0), DID (1) of one ON n MOMENTS (0 to 400).", EdgesOfMomentsTest::freshAndDidOn)
            .says("Promise 13", "BEYOND.", EdgesOfMomentsTest::onBeyond)
            .says("Promise 14", "HOUSE ON n MOMENTS (0 to 400).", EdgesOfMomentsTest::houseOn)
            .says("Promise 14", "BEYOND.", EdgesOfMomentsTest::houseBeyond)
            .says("Promise 15", "How many DO a thing (0 to 4) in the n-th MOMENT (1 to 400) from now on (1: this one).",
                EdgesOfMomentsTest::heardIn)
            .says("Promise 15", "BEYOND.", EdgesOfMomentsTest::heardBeyond)
            .says("Promise 16", "The how-manieth MOMENT from now on (1 to 400; 1: this one) is the first in which one DOES a "
                + "thing (0 to 4).", EdgesOfMomentsTest::doesFirst)
            .says("Promise 16", "BEYOND.", EdgesOfMomentsTest::doesBeyond)
            .says("Promise 16", "NONE.", EdgesOfMomentsTest::doesNone)
            .says("Promise 17", "In how many MOMENTS (0 to 400) ON NOTE of one is v (-9999 to 9999) or more first.",
                EdgesOfMomentsTest::comesFirst)
            .says("Promise 17", "BEYOND.", EdgesOfMomentsTest::comesBeyond)
            .says("Promise 17", "NONE.", EdgesOfMomentsTest::comesNone);
    }

    /**
     * Two sitters, asked to be still but in MOMENT 15, where a sob is asked at TENSE 3: of FRESH 99 and 98 they
     * are at 3 and 2 in the 25th night, whose last MOMENT is the 400th: there alone they do unlike things.
     */
    private static NotedHouse unlikeAtTheLast() {
        NotedHouse x = Due.houseOf(Due.SITTER, Due.SITTER);
        Due.playAll(x, 0, 0);
        x.play(15, 0, 1);
        x.play(15, 1, 3);
        x.set(0, 1, 98);
        x.set(1, 1, 99);
        return x;
    }

    private static void momentsGo() {
        int[][] goes = {{0, 1, 1, 0}, {0, 15, 15, 0}, {0, 16, 0, 1}, {0, 17, 1, 1}, {0, 199, 7, 12}, {0, 200, 8, 12},
            {15, 1, 0, 1}, {15, 16, 15, 1}, {15, 200, 7, 13}, {8, 200, 0, 13}, {7, 200, 15, 12}, {14, 1, 15, 0}};
        for (int[] g : goes) {
            NotedHouse x = Due.houseOf(Due.SITTER);
            Due.playAll(x, 0, 0);
            if (g[0] > 0) {
                x.moments(g[0]);
            }
            DUE.is("from " + g[0] + ": moments(" + g[1] + ")", x.moments(g[1]), g[2]);
            DUE.is("from " + g[0] + ": MOMENT behind " + g[1], x.now(1), g[2]);
            DUE.is("from " + g[0] + ": NIGHT behind " + g[1], x.now(0), g[3]);
            DUE.is("from " + g[0] + ": NOTE behind " + g[1], x.of(0, 2), 10000 + 3 * (g[0] + g[1]));
            DUE.is("from " + g[0] + ": FRESH behind " + g[1], x.of(0, 1), 60 - 4 * g[3]);
        }
    }

    private static void momentsBeyond() {
        Refused.outside(DUE, NotedHouse::new, "nobody: moments(%d)", 1, 200, NotedHouse::moments);
        Refused.outside(DUE, Refused::small, "moments(%d)", 1, 200, NotedHouse::moments);
    }

    private static NotedHouse farOn(int calls, int more) {
        NotedHouse x = Due.houseOf(Due.SLEEPER);
        for (int i = 0; i < calls; i++) {
            x.moments(200);
        }
        if (more > 0) {
            x.moments(more);
        }
        return x;
    }

    /** NIGHT 9999 lies behind more than 512 calls, whose answers are free; the class holds to its words there too. */
    private static void theLastNight() {
        NotedHouse near = farOn(500, 0);
        DUE.is("behind 500 calls: moments(200)", near.moments(200), 8);
        DUE.is("behind 500 calls: status(4)", near.status(4), 0);
        // 799 times 200 are 9987 nights and 8 moments
        NotedHouse x = farOn(799, 0);
        DUE.is("it would be 10000", x.moments(200), Due.STATE);
        DUE.is("BEYOND is asked first", x.moments(201), Due.BEYOND);
        DUE.is("NIGHT is left", x.now(0), 9987);
        DUE.is("MOMENT is left", x.now(1), 8);
        DUE.is("it is 9999", x.moments(199), 15);
        DUE.is("NIGHT 9999", x.now(0), 9999);
        DUE.is("the last moment of all", x.moments(1), Due.STATE);
        DUE.is("status(4)", x.status(4), 2);
        NotedHouse y = farOn(799, 184);
        DUE.is("NIGHT 9999 at its first", y.now(0), 9999);
        DUE.is("MOMENT 0 there", y.now(1), 0);
        DUE.is("a whole night more", y.moments(16), Due.STATE);
        DUE.is("all but its last moment", y.moments(15), 15);
        DUE.is("ON goes further all the same", y.on(0, 400, 0), 99);
        DUE.is("NIGHT is left at last", y.now(0), 9999);
    }

    private static void noteOn() {
        NotedHouse x = unlikeAtTheLast();
        for (int p = 0; p < 2; p++) {
            DUE.is("note(" + p + ", 0)", x.note(p, 0), 0);
            DUE.is("note(" + p + ", 1)", x.note(p, 1), 3);
            DUE.is("note(" + p + ", 399)", x.note(p, 399), 1197);
        }
        DUE.is("note(0, 400)", x.note(0, 400), 1196);
        DUE.is("note(1, 400)", x.note(1, 400), 1200);
        x.set(0, 2, -9999);
        x.set(1, 2, 9999);
        DUE.is("at the least: note(0, 0)", x.note(0, 0), -9999);
        DUE.is("at the most: note(1, 0)", x.note(1, 0), 9999);
        DUE.is("held at the most: note(1, 400)", x.note(1, 400), 9999);
        x.set(1, 2, 9999 - 1200);
        DUE.is("just there: note(1, 400)", x.note(1, 400), 9999);
        DUE.is("just not: note(1, 399)", x.note(1, 399), 9996);
        Due.playAll(x, 1, 20);
        x.turn(0, Due.SLEEPER);
        x.set(0, 2, -9996);
        DUE.is("held at the least: note(0, 400)", x.note(0, 400), -9999);
    }

    private static void noteBeyond() {
        Refused.nobodyElse(DUE, "note(%d, 0)", (x, v) -> x.note(v, 0));
        Refused.nobodyElse(DUE, "note(%d, 400)", (x, v) -> x.note(v, 400));
        Refused.outside(DUE, Refused::small, "note(2, %d)", 0, 400, (x, v) -> x.note(2, v));
    }

    private static void freshAndDidOn() {
        NotedHouse x = unlikeAtTheLast();
        x.set(1, 3, 4);
        DUE.is("on(1, 0, 0)", x.on(1, 0, 0), 99);
        DUE.is("on(1, 15, 0)", x.on(1, 15, 0), 99);
        DUE.is("on(1, 16, 0)", x.on(1, 16, 0), 95);
        DUE.is("on(1, 399, 0)", x.on(1, 399, 0), 3);
        DUE.is("on(1, 400, 0)", x.on(1, 400, 0), 0);
        DUE.is("on(1, 0, 1)", x.on(1, 0, 1), 4);
        DUE.is("on(1, 1, 1)", x.on(1, 1, 1), 0);
        // a sob in MOMENT 14 is what it did till 15 has gone
        x.play(14, 0, 1);
        DUE.is("on(1, 14, 1)", x.on(1, 14, 1), 0);
        DUE.is("on(1, 15, 1)", x.on(1, 15, 1), 1);
        DUE.is("on(1, 16, 1)", x.on(1, 16, 1), 0);
        DUE.is("on(1, 398, 1)", x.on(1, 398, 1), 0);
        DUE.is("on(1, 399, 1)", x.on(1, 399, 1), 1);
        DUE.is("on(1, 400, 1)", x.on(1, 400, 1), 0);
        x.turn(1, Due.SLEEPER);
        DUE.is("held at the most: on(1, 400, 0)", x.on(1, 400, 0), 99);
        x.set(1, 1, 0);
        DUE.is("5 a night: on(1, 319, 0)", x.on(1, 319, 0), 95);
        DUE.is("5 a night: on(1, 320, 0)", x.on(1, 320, 0), 99);
    }

    private static void onBeyond() {
        Refused.nobodyElse(DUE, "on(%d, 0, 0)", (x, v) -> x.on(v, 0, 0));
        Refused.nobodyElse(DUE, "on(%d, 400, 1)", (x, v) -> x.on(v, 400, 1));
        Refused.outside(DUE, Refused::small, "on(2, %d, 0)", 0, 400, (x, v) -> x.on(2, v, 0));
        Refused.outside(DUE, Refused::small, "on(2, %d, 1)", 0, 400, (x, v) -> x.on(2, v, 1));
        Refused.outside(DUE, Refused::small, "on(2, 7, %d)", 0, 1, (x, v) -> x.on(2, 7, v));
    }

    private static void houseOn() {
        NotedHouse x = unlikeAtTheLast();
        DUE.is("house(0)", x.house(0), 0);
        DUE.is("house(1)", x.house(1), 6);
        DUE.is("house(399)", x.house(399), 2394);
        DUE.is("house(400)", x.house(400), 2396);
        DUE.is("nobody: house(0)", new NotedHouse().house(0), 0);
        DUE.is("nobody: house(400)", new NotedHouse().house(400), 0);
        NotedHouse y = Due.houseOf(0, 0, 0, 0, 0, 0, 0, 0);
        Due.playAll(y, 0, 0);
        for (int p = 0; p < 8; p++) {
            y.set(p, 2, 9999);
        }
        DUE.is("each is held, HOUSE is not: house(400)", y.house(400), 79992);
        Due.playAll(y, 1, 20);
        for (int p = 0; p < 8; p++) {
            y.turn(p, Due.SLEEPER);
            y.set(p, 2, -9999);
        }
        DUE.is("each is held, HOUSE is not: house(400) below", y.house(400), -79992);
    }

    private static void houseBeyond() {
        Refused.outside(DUE, NotedHouse::new, "nobody: house(%d)", 0, 400, NotedHouse::house);
        Refused.outside(DUE, Refused::small, "house(%d)", 0, 400, NotedHouse::house);
    }

    private static void heardIn() {
        NotedHouse x = unlikeAtTheLast();
        DUE.is("this one: heard(1, 0)", x.heard(1, 0), 2);
        DUE.is("heard(15, 1)", x.heard(15, 1), 0);
        DUE.is("heard(16, 1)", x.heard(16, 1), 2);
        DUE.is("heard(17, 1)", x.heard(17, 1), 0);
        DUE.is("heard(384, 1)", x.heard(384, 1), 2);
        DUE.is("heard(399, 0)", x.heard(399, 0), 2);
        DUE.is("heard(400, 0)", x.heard(400, 0), 1);
        DUE.is("heard(400, 1)", x.heard(400, 1), 1);
        // eight do one thing, and nobody another
        NotedHouse y = Due.houseOf(0, 0, 0, 0, 0, 0, 0, 0);
        for (int q = 0; q < 5; q++) {
            y.play(0, 0, q);
            for (int what = 0; what < 5; what++) {
                DUE.is("asked " + q + ": heard(1, " + what + ")", y.heard(1, what), what == q ? 8 : 0);
                DUE.is("nobody: heard(400, " + what + ")", new NotedHouse().heard(400, what), 0);
            }
        }
    }

    private static void heardBeyond() {
        Refused.outside(DUE, NotedHouse::new, "nobody: heard(%d, 0)", 1, 400, (x, v) -> x.heard(v, 0));
        Refused.outside(DUE, Refused::small, "heard(%d, 4)", 1, 400, (x, v) -> x.heard(v, 4));
        Refused.outside(DUE, Refused::small, "heard(1, %d)", 0, 4, (x, v) -> x.heard(1, v));
        Refused.outside(DUE, Refused::small, "heard(400, %d)", 0, 4, (x, v) -> x.heard(400, v));
    }

    private static void doesFirst() {
        NotedHouse x = Due.houseOf(Due.SITTER);
        for (int what = 0; what < 5; what++) {
            DUE.is("does(0, " + what + ")", x.does(0, what), what + 1);
        }
        x.moments(4);
        DUE.is("this one: does(0, 4)", x.does(0, 4), 1);
        DUE.is("in MOMENT 8: does(0, 3)", x.does(0, 3), 5);
        x.play(8, 0, 0);
        x.play(13, 0, 0);
        DUE.is("over the night's end: does(0, 3)", x.does(0, 3), 16);
        NotedHouse y = unlikeAtTheLast();
        Due.playAll(y, 1, 0);
        y.play(15, 1, 3);
        DUE.is("the 400th: does(0, 0)", y.does(0, 0), 400);
        y.moments(1);
        DUE.is("a moment on, the 399th: does(0, 0)", y.does(0, 0), 399);
        DUE.is("status(-1)", y.status(-1), 0);
    }

    private static void doesBeyond() {
        Refused.nobodyElse(DUE, "does(%d, 0)", (x, v) -> x.does(v, 0));
        Refused.outside(DUE, Refused::small, "does(0, %d)", 0, 4, (x, v) -> x.does(0, v));
        Refused.outside(DUE, Refused::full, "does(7, %d)", 0, 4, (x, v) -> x.does(7, v));
    }

    /** Sobs are asked throughout; MOMENT 0 of the 26th night, the 401st, is the first it is too tired for. */
    private static NotedHouse stillInThe401st() {
        NotedHouse x = Due.houseOf(Due.SITTER);
        Due.playAll(x, 1, 0);
        x.play(0, 1, 3);
        x.set(0, 1, 99);
        return x;
    }

    private static void doesNone() {
        Refused.is(DUE, EdgesOfMomentsTest::stillInThe401st, "the 401st: does(0, 0)", Due.NONE, x -> x.does(0, 0));
        NotedHouse y = stillInThe401st();
        y.moments(1);
        DUE.is("a moment on, the 400th: does(0, 0)", y.does(0, 0), 400);
        for (int what = 1; what < 5; what++) {
            int w = what;
            Refused.is(DUE, () -> Due.houseOf(Due.SLEEPER), "a sleeper: does(0, " + w + ")", Due.NONE, x -> x.does(0, w));
        }
    }

    private static void comesFirst() {
        NotedHouse x = Due.houseOf(Due.SITTER);
        Due.playAll(x, 0, 0);
        DUE.is("comes(0, -9999)", x.comes(0, -9999), 0);
        DUE.is("comes(0, 0)", x.comes(0, 0), 0);
        DUE.is("comes(0, 1)", x.comes(0, 1), 1);
        DUE.is("comes(0, 3)", x.comes(0, 3), 1);
        DUE.is("comes(0, 4)", x.comes(0, 4), 2);
        DUE.is("comes(0, 1197)", x.comes(0, 1197), 399);
        DUE.is("comes(0, 1198)", x.comes(0, 1198), 400);
        DUE.is("comes(0, 1200)", x.comes(0, 1200), 400);
        x.set(0, 2, -9999);
        DUE.is("at the least: comes(0, -9999)", x.comes(0, -9999), 0);
        DUE.is("at the least: comes(0, -9998)", x.comes(0, -9998), 1);
        x.set(0, 2, 9999);
        DUE.is("at the most: comes(0, 9999)", x.comes(0, 9999), 0);
        x.set(0, 2, 9998);
        DUE.is("held: comes(0, 9999)", x.comes(0, 9999), 1);
        x.set(0, 2, 9999 - 1200);
        DUE.is("just there: comes(0, 9999)", x.comes(0, 9999), 400);
        // it is there first, though it sinks below again
        NotedHouse y = Due.houseOf(Due.SLEEPER);
        DUE.is("a sleeper: comes(0, 1)", y.comes(0, 1), 1);
        DUE.is("a sleeper's note then", y.note(0, 2), -2);
        DUE.is("status(-1)", y.status(-1) + x.status(-1), 0);
    }

    private static void comesBeyond() {
        Refused.nobodyElse(DUE, "comes(%d, 0)", (x, v) -> x.comes(v, 0));
        Refused.outside(DUE, Refused::small, "comes(0, %d)", -9999, 9999, (x, v) -> x.comes(0, v));
        Refused.outside(DUE, Refused::full, "comes(7, %d)", -9999, 9999, (x, v) -> x.comes(7, v));
    }

    private static NotedHouse still(int note) {
        NotedHouse x = Due.houseOf(Due.SITTER);
        Due.playAll(x, 0, 0);
        x.set(0, 2, note);
        return x;
    }

    private static void comesNone() {
        Refused.is(DUE, () -> still(0), "comes(0, 1201)", Due.NONE, x -> x.comes(0, 1201));
        Refused.is(DUE, () -> still(0), "comes(0, 9999)", Due.NONE, x -> x.comes(0, 9999));
        Refused.is(DUE, () -> still(8798), "1 too few: comes(0, 9999)", Due.NONE, x -> x.comes(0, 9999));
        DUE.is("just there: comes(0, 9999)", still(8799).comes(0, 9999), 400);
        Refused.is(DUE, () -> Due.houseOf(Due.SLEEPER), "a sleeper: comes(0, 2)", Due.NONE, x -> x.comes(0, 2));
    }
}
