/** The edges that promises 18 to 24 name: place, kind, fresh, cue, doze, tense, best. */
public final class EdgesOfBestTest {
    private static final Due DUE = new Due();

    public static void main(String[] args) {
        sentences().run(DUE);
    }

    static Edges sentences() {
        return new Edges()
            .says("Promise 18", "With whom one had best change seats now, so that HOUSE is most ON n MOMENTS (1 to 100), "
                + "more than as it is; of several the least.", EdgesOfBestTest::placeIsBest)
            .says("Promise 18", "BEYOND.", EdgesOfBestTest::placeBeyond)
            .says("Promise 18", "NONE.", EdgesOfBestTest::placeNone)
            .says("Promise 19", "The KIND as one of which NOTE of one is most ON n MOMENTS (1 to 100); "
                + "of several the least.", EdgesOfBestTest::kindIsBest)
            .says("Promise 19", "BEYOND.", EdgesOfBestTest::kindBeyond)
            .says("Promise 20", "The least FRESH (0 to 99) of one now with which its NOTE is v (-9999 to 9999) or more ON n "
                + "MOMENTS (1 to 100).", EdgesOfBestTest::freshAtLeast)
            .says("Promise 20", "BEYOND.", EdgesOfBestTest::freshBeyond)
            .says("Promise 20", "NONE.", EdgesOfBestTest::freshNone)
            .says("Promise 21", "The MOMENT and the CUE (16 times the CUE, and the MOMENT) that, told so, make HOUSE most ON "
                + "n MOMENTS (1 to 60); of several the least.", EdgesOfBestTest::cueIsBest)
            .says("Promise 21", "BEYOND.", EdgesOfBestTest::cueBeyond)
            .says("Promise 22", "Who, as a SLEEPER from now on, lets HOUSE be least ON n MOMENTS (1 to 100); "
                + "of several the least.", EdgesOfBestTest::dozeIsWorst)
            .says("Promise 22", "BEYOND.", EdgesOfBestTest::dozeBeyond)
            .says("Promise 22", "NONE: nobody is there.", EdgesOfBestTest::dozeNone)
            .says("Promise 23", "The greatest TENSE (0 to 20), of all MOMENTS alike, with which HOUSE is v (-9999 to 9999) or "
                + "more ON n MOMENTS (1 to 100).", EdgesOfBestTest::tenseAtMost)
            .says("Promise 23", "BEYOND.", EdgesOfBestTest::tenseBeyond)
            .says("Promise 23", "NONE.", EdgesOfBestTest::tenseNone)
            .says("Promise 24", "Whose NOTE is most ON n MOMENTS (0 to 400); of several the least.",
                EdgesOfBestTest::bestOfAll)
            .says("Promise 24", "BEYOND.", EdgesOfBestTest::bestBeyond)
            .says("Promise 24", "NONE: nobody is there.", EdgesOfBestTest::bestNone);
    }

    /**
     * The cougher in seat 2, itself too tired, coughs in MOMENT 3 (5, else -1) if the one beside it did in MOMENT 2.
     * The sitter in seat 1 does so for six nights (30, .. 10), that in seat 0 in the seventh too (99, .. 75):
     * whether they sit otherwise is heard in the 100th MOMENT first.
     */
    private static NotedHouse unlikeInThe100th() {
        NotedHouse x = Due.houseOf(Due.SITTER, Due.SITTER, Due.COUGHER);
        Due.playAll(x, 0, 10);
        x.play(2, 0, 3);
        x.play(3, 0, 3);
        x.set(0, 1, 99);
        x.set(1, 1, 30);
        x.set(2, 1, 0);
        return x;
    }

    /** A cougher beside one who coughed, where stillness is asked, and so many sitters more. */
    private static NotedHouse coughBeside(int more) {
        NotedHouse x = Due.houseOf(Due.COUGHER, Due.SITTER);
        for (int i = 0; i < more; i++) {
            x.person(Due.SITTER);
        }
        x.set(1, 3, 3);
        return x;
    }

    private static void placeIsBest() {
        NotedHouse x = unlikeInThe100th();
        DUE.is("as it is: house(99)", x.house(99), unlikeSwapped().house(99));
        DUE.is("swapped: house(100)", unlikeSwapped().house(100), x.house(100) + 6);
        DUE.is("place(0, 100)", x.place(0, 100), 1);
        DUE.is("place(1, 100)", x.place(1, 100), 0);
        DUE.is("place(2, 100)", x.place(2, 100), 1);
        DUE.is("place(1, 1): of several the least", coughBeside(6).place(1, 1), 2);
        DUE.is("place(0, 1): away from the cough", coughBeside(2).place(0, 1), 3);
        DUE.is("place(0, 1) of eight: of several the least", coughBeside(6).place(0, 1), 3);
        // the other way round: the best is in the first seat, or in the last
        NotedHouse y = Due.houseOf(Due.SITTER, Due.SITTER, Due.COUGHER);
        y.set(1, 3, 3);
        DUE.is("the first seat: place(1, 1)", y.place(1, 1), 0);
        NotedHouse z = coughBeside(6);
        for (int p = 2; p < 8; p++) {
            z.turn(p, Due.COUGHER);
        }
        z.turn(6, Due.SITTER);
        DUE.is("the last seat: place(1, 1)", z.place(1, 1), 7);
    }

    private static NotedHouse unlikeSwapped() {
        NotedHouse x = unlikeInThe100th();
        x.swap(0, 1);
        return x;
    }

    private static void placeBeyond() {
        Refused.nobodyElse(DUE, "place(%d, 1)", (x, v) -> x.place(v, 1));
        Refused.nobodyElse(DUE, "place(%d, 100)", (x, v) -> x.place(v, 100));
        Refused.outside(DUE, Refused::small, "place(0, %d)", 1, 100, (x, v) -> x.place(0, v));
    }

    private static void placeNone() {
        for (int person = 0; person < 3; person++) {
            int p = person;
            Refused.is(DUE, EdgesOfBestTest::unlikeInThe100th, "as good: place(" + p + ", 99)", Due.NONE,
                x -> x.place(p, 99));
        }
        Refused.is(DUE, () -> Due.houseOf(0), "alone: place(0, 1)", Due.NONE, x -> x.place(0, 1));
        Refused.is(DUE, () -> Due.houseOf(0), "alone: place(0, 100)", Due.NONE, x -> x.place(0, 100));
        Refused.is(DUE, () -> coughBeside(1), "it hears it anywhere: place(0, 1)", Due.NONE, x -> x.place(0, 1));
        Refused.is(DUE, () -> {
            NotedHouse x = coughBeside(1);
            x.swap(1, 2);
            return x;
        }, "all else is worse: place(1, 1)", Due.NONE, x -> x.place(1, 1));
    }

    private static void kindIsBest() {
        // a laugh is asked in MOMENT 3 alone, at TENSE 10: in the seventh night a SITTER of 30 is at 6, a COUGHER at 12
        NotedHouse x = Due.houseOf(Due.SLEEPER);
        Due.playAll(x, 0, 10);
        x.play(3, 0, 2);
        x.set(0, 1, 30);
        DUE.is("as good: kind(0, 99)", x.kind(0, 99), Due.SITTER);
        DUE.is("in the 100th: kind(0, 100)", x.kind(0, 100), Due.COUGHER);
        int[][] best = {{0, Due.SITTER}, {1, Due.WEEPER}, {2, Due.SITTER}, {3, Due.COUGHER}, {4, Due.SITTER}};
        for (int[] b : best) {
            NotedHouse y = Due.houseOf(Due.CLAQUE);
            y.play(0, 0, b[0]);
            DUE.is("asked " + b[0] + ": kind(0, 1)", y.kind(0, 1), b[1]);
        }
        NotedHouse tired = Due.houseOf(Due.SITTER);
        tired.set(0, 1, 0);
        int[] then = {Due.SITTER, Due.WIDOW, Due.WIDOW, Due.WIDOW, Due.CLAQUE};
        for (int q = 0; q < 5; q++) {
            tired.play(0, 0, q);
            DUE.is("tired, asked " + q + ": kind(0, 1)", tired.kind(0, 1), then[q]);
        }
        // held at the most, all kinds are noted alike but those that sink; at the least, all that sink
        tired.play(0, 0, 0);
        tired.set(0, 2, 9999);
        DUE.is("at the most: kind(0, 1)", tired.kind(0, 1), Due.SITTER);
        tired.play(0, 0, 1);
        DUE.is("at the most, asked 1: kind(0, 1)", tired.kind(0, 1), Due.WIDOW);
        tired.set(0, 2, -9999);
        DUE.is("at the least, asked 1: kind(0, 1)", tired.kind(0, 1), Due.SITTER);
        tired.play(0, 0, 4);
        DUE.is("1 above the least, asked 4: kind(0, 1)", tired.kind(0, 1), Due.CLAQUE);
    }

    private static void kindBeyond() {
        Refused.nobodyElse(DUE, "kind(%d, 1)", (x, v) -> x.kind(v, 1));
        Refused.nobodyElse(DUE, "kind(%d, 100)", (x, v) -> x.kind(v, 100));
        Refused.outside(DUE, Refused::small, "kind(0, %d)", 1, 100, (x, v) -> x.kind(0, v));
    }

    /** A weeper of whom sobs are asked throughout at the greatest TENSE: 4 each while it is at 20 or more. */
    private static NotedHouse sobs() {
        NotedHouse x = Due.houseOf(Due.WEEPER);
        Due.playAll(x, 1, 20);
        return x;
    }

    private static void freshAtLeast() {
        NotedHouse x = sobs();
        DUE.is("fresh(0, 1, 4)", x.fresh(0, 1, 4), 20);
        DUE.is("fresh(0, 1, 0)", x.fresh(0, 1, 0), 20);
        DUE.is("fresh(0, 1, -1)", x.fresh(0, 1, -1), 0);
        DUE.is("fresh(0, 16, 64)", x.fresh(0, 16, 64), 20);
        DUE.is("fresh(0, 17, 68)", x.fresh(0, 17, 68), 28);
        DUE.is("fresh(0, 96, 384)", x.fresh(0, 96, 384), 60);
        DUE.is("fresh(0, 97, 388)", x.fresh(0, 97, 388), 68);
        DUE.is("fresh(0, 100, 400)", x.fresh(0, 100, 400), 68);
        DUE.is("fresh(0, 100, 396)", x.fresh(0, 100, 396), 68);
        // 5 less for each moment of the seventh night it is too tired for
        DUE.is("fresh(0, 100, 380)", x.fresh(0, 100, 380), 60);
        DUE.is("fresh(0, 100, 381)", x.fresh(0, 100, 381), 68);
        DUE.is("fresh(0, 1, -9999)", x.fresh(0, 1, -9999), 0);
        x.set(0, 2, 9999);
        DUE.is("held: fresh(0, 1, 9999)", x.fresh(0, 1, 9999), 20);
        x.set(0, 2, 9995);
        DUE.is("just there: fresh(0, 1, 9999)", x.fresh(0, 1, 9999), 20);
        x.set(0, 2, -9999);
        DUE.is("held at the least: fresh(0, 100, -9999)", x.fresh(0, 100, -9999), 0);
        DUE.is("FRESH is left", x.of(0, 1), 60);
        DUE.is("status(-1)", x.status(-1), 0);
    }

    private static void freshBeyond() {
        Refused.nobodyElse(DUE, "fresh(%d, 1, 0)", (x, v) -> x.fresh(v, 1, 0));
        Refused.outside(DUE, Refused::small, "fresh(0, %d, 0)", 1, 100, (x, v) -> x.fresh(0, v, 0));
        Refused.outside(DUE, Refused::small, "fresh(0, 1, %d)", -9999, 9999, (x, v) -> x.fresh(0, 1, v));
    }

    private static void freshNone() {
        Refused.is(DUE, EdgesOfBestTest::sobs, "fresh(0, 1, 5)", Due.NONE, x -> x.fresh(0, 1, 5));
        Refused.is(DUE, EdgesOfBestTest::sobs, "fresh(0, 100, 401)", Due.NONE, x -> x.fresh(0, 100, 401));
        Refused.is(DUE, EdgesOfBestTest::sobs, "fresh(0, 1, 9999)", Due.NONE, x -> x.fresh(0, 1, 9999));
    }

    private static void cueIsBest() {
        DUE.is("nobody: cue(1)", new NotedHouse().cue(1), 0);
        DUE.is("nobody: cue(60)", new NotedHouse().cue(60), 0);
        // MOMENT 11 asks a sob at TENSE 20: of 28, it is at 16 in the fourth night, where that is the 60th
        NotedHouse x = Due.houseOf(Due.SITTER);
        Due.playAll(x, 0, 20);
        x.play(11, 0, 1);
        x.set(0, 1, 28);
        DUE.is("as good: cue(59)", x.cue(59), 0);
        DUE.is("in the 60th: cue(60)", x.cue(60), 11);
        // the greatest answer: a claque claps in MOMENT 15 anyway
        NotedHouse y = Due.houseOf(Due.CLAQUE);
        y.moments(15);
        DUE.is("in MOMENT 15: cue(1)", y.cue(1), 16 * 4 + 15);
        NotedHouse z = Due.houseOf(Due.CLAQUE);
        Due.playAll(z, 0, 0);
        DUE.is("in 7 and in 15 alike: cue(16)", z.cue(16), 16 * 4 + 7);
        DUE.is("CUES are left: now(2)", z.now(2), 0);
        // the least of several CUES, not of several MOMENTS: a tired sitter wants stillness
        NotedHouse tired = Due.houseOf(Due.SITTER);
        Due.playAll(tired, 3, 20);
        tired.set(0, 1, 0);
        DUE.is("tired: cue(16)", tired.cue(16), 0);
        tired.moments(1);
        DUE.is("tired, in MOMENT 1: cue(1)", tired.cue(1), 1);
        DUE.is("tired, in MOMENT 1: cue(16)", tired.cue(16), 0);
        NotedHouse least = Due.houseOf(0, 0, 0, 0, 0, 0, 0, 0);
        for (int p = 0; p < 8; p++) {
            least.set(p, 2, -9999);
            least.turn(p, Due.SLEEPER);
        }
        Due.playAll(least, 1, 20);
        least.play(0, 0, 0);
        least.moments(1);
        DUE.is("from the least: cue(1)", least.cue(1), 1);
        for (int moment = 0; moment < 16; moment++) {
            cueOfEach(moment);
        }
    }

    /** One who is still, sobs or coughs whatever is asked had best be asked that, in this very MOMENT. */
    private static void cueOfEach(int moment) {
        int[][] does = {{Due.SITTER, 0, 0}, {Due.WEEPER, 60, 1}, {Due.COUGHER, 0, 3}};
        for (int[] d : does) {
            NotedHouse x = Due.houseOf(d[0], Due.SLEEPER);
            Due.playAll(x, 4, 20);
            if (moment > 0) {
                x.moments(moment);
            }
            x.set(0, 1, d[1]);
            x.set(1, 3, 3);
            x.set(1, 2, -9999);
            x.set(0, 2, 0);
            DUE.is("kind " + d[0] + " in " + moment + ": cue(1)", x.cue(1), 16 * d[2] + moment);
        }
    }

    private static void cueBeyond() {
        Refused.outside(DUE, NotedHouse::new, "nobody: cue(%d)", 1, 60, NotedHouse::cue);
        Refused.outside(DUE, Refused::small, "cue(%d)", 1, 60, NotedHouse::cue);
    }

    private static void dozeIsWorst() {
        // in MOMENT 3 a sob is asked at TENSE 10: the one of 30 is too tired for it in the seventh night, the 100th
        NotedHouse x = Due.houseOf(Due.SITTER, Due.SITTER);
        Due.playAll(x, 0, 10);
        x.play(3, 0, 1);
        x.set(0, 1, 30);
        x.set(1, 1, 99);
        DUE.is("as good: doze(99)", x.doze(99), 0);
        DUE.is("in the 100th: doze(100)", x.doze(100), 1);
        DUE.is("alone: doze(1)", Due.houseOf(Due.SITTER).doze(1), 0);
        NotedHouse first = Due.houseOf(Due.SITTER, Due.SITTER, Due.SLEEPER);
        first.play(0, 0, 1);
        first.set(1, 1, 0);
        DUE.is("the first seat, others unlike: doze(1)", first.doze(1), 0);
        DUE.is("alone, a sleeper: doze(100)", Due.houseOf(Due.SLEEPER).doze(100), 0);
        NotedHouse y = Due.houseOf(3, 3, 3, 3, 3, 3, 3, 0);
        DUE.is("the last seat: doze(1)", y.doze(1), 7);
        for (int p = 0; p < 8; p++) {
            y.turn(p, Due.SITTER);
        }
        DUE.is("all alike: doze(1)", y.doze(1), 0);
        y.set(0, 1, 0);
        y.play(0, 0, 1);
        DUE.is("all but the first alike: doze(1)", y.doze(1), 1);
        for (int p = 0; p < 8; p++) {
            y.set(p, 2, 9999);
            y.set(p, 1, 60);
        }
        y.play(0, 0, 0);
        DUE.is("all at the most: doze(1)", y.doze(1), 0);
        DUE.is("KIND is left", y.of(0, 0), Due.SITTER);
    }

    private static void dozeBeyond() {
        Refused.outside(DUE, NotedHouse::new, "nobody: doze(%d)", 1, 100, NotedHouse::doze);
        Refused.outside(DUE, Refused::small, "doze(%d)", 1, 100, NotedHouse::doze);
    }

    private static void dozeNone() {
        Refused.is(DUE, NotedHouse::new, "nobody: doze(1)", Due.NONE, x -> x.doze(1));
        Refused.is(DUE, NotedHouse::new, "nobody: doze(100)", Due.NONE, x -> x.doze(100));
        NotedHouse x = new NotedHouse();
        x.image();
        x.person(0);
        DUE.is("one is there", x.doze(1), 0);
        x.undo();
        DUE.is("and nobody again", x.doze(1), Due.NONE);
    }

    private static void tenseAtMost() {
        NotedHouse x = Due.houseOf(Due.SITTER);
        Due.playAll(x, 1, 5);
        for (int fresh : new int[] {0, 1, 19, 20, 21, 99}) {
            x.set(0, 1, fresh);
            DUE.is("of " + fresh + ": tense(1, 3)", x.tense(1, 3), Math.min(20, fresh));
            DUE.is("of " + fresh + ": tense(1, 0)", x.tense(1, 0), Math.min(20, fresh));
            DUE.is("of " + fresh + ": tense(1, -1)", x.tense(1, -1), 20);
        }
        // a sob is asked in MOMENT 3 alone: of 30, it is at 10 in the sixth night and at 6 in the seventh, the 100th
        NotedHouse y = Due.houseOf(Due.SITTER);
        Due.playAll(y, 0, 5);
        y.play(3, 0, 1);
        y.set(0, 1, 30);
        DUE.is("tense(99, 297)", y.tense(99, 297), 10);
        DUE.is("tense(100, 300)", y.tense(100, 300), 6);
        DUE.is("tense(100, 296)", y.tense(100, 296), 10);
        DUE.is("tense(100, 297)", y.tense(100, 297), 6);
        DUE.is("TENSE is left", y.count(2), 80);
        ofAllMomentsAlike();
        DUE.is("nobody: tense(1, 0)", new NotedHouse().tense(1, 0), 20);
        DUE.is("nobody: tense(100, -9999)", new NotedHouse().tense(100, -9999), 20);
        y.set(0, 2, 9999);
        DUE.is("held at the most: tense(1, 9999)", y.tense(1, 9999), 20);
        NotedHouse z = Due.houseOf(Due.SLEEPER);
        Due.playAll(z, 1, 5);
        z.set(0, 2, -9999);
        DUE.is("held at the least: tense(100, -9999)", z.tense(100, -9999), 20);
        DUE.is("status(-1)", x.status(-1) + y.status(-1) + z.status(-1), 0);
    }

    /** A sob is asked in one MOMENT alone, whose TENSE is too great as it is: it counts there, too. */
    private static void ofAllMomentsAlike() {
        for (int moment = 0; moment < 16; moment++) {
            NotedHouse x = Due.houseOf(Due.SITTER);
            Due.playAll(x, 0, 20);
            x.play(moment, 0, 1);
            x.set(0, 1, 7);
            DUE.is("in " + moment + ": house(16)", x.house(16), 44);
            DUE.is("in " + moment + ": tense(16, 48)", x.tense(16, 48), 7);
            DUE.is("in " + moment + ": tense(16, 44)", x.tense(16, 44), 20);
        }
    }

    private static void tenseBeyond() {
        Refused.outside(DUE, NotedHouse::new, "nobody: tense(%d, 0)", 1, 100, (x, v) -> x.tense(v, 0));
        Refused.outside(DUE, Refused::small, "tense(%d, 0)", 1, 100, (x, v) -> x.tense(v, 0));
        Refused.outside(DUE, Refused::small, "tense(1, %d)", -9999, 9999, (x, v) -> x.tense(1, v));
        Refused.outside(DUE, Refused::small, "tense(100, %d)", -9999, 9999, (x, v) -> x.tense(100, v));
    }

    private static void tenseNone() {
        Refused.is(DUE, NotedHouse::new, "nobody: tense(1, 1)", Due.NONE, x -> x.tense(1, 1));
        Refused.is(DUE, () -> Due.houseOf(0), "tense(1, 4)", Due.NONE, x -> x.tense(1, 4));
        Refused.is(DUE, () -> Due.houseOf(0), "tense(100, 301)", Due.NONE, x -> x.tense(100, 301));
        DUE.is("tense(100, 300)", Due.houseOf(0).tense(100, 300), 20);
        Refused.is(DUE, () -> {
            NotedHouse x = Due.houseOf(0, 0);
            x.set(0, 2, -9999);
            x.set(1, 2, -9999);
            return x;
        }, "HOUSE below the least NOTE: tense(1, -9999)", Due.NONE, x -> x.tense(1, -9999));
    }

    private static void bestOfAll() {
        // sobs are asked in MOMENT 15 at TENSE 3: of 98 and 99, they are at 2 and 3 in the 25th night, the 400th
        NotedHouse x = Due.houseOf(Due.SITTER, Due.SITTER);
        Due.playAll(x, 0, 0);
        x.play(15, 0, 1);
        x.play(15, 1, 3);
        x.set(0, 1, 98);
        x.set(1, 1, 99);
        DUE.is("as good: best(0)", x.best(0), 0);
        DUE.is("as good: best(399)", x.best(399), 0);
        DUE.is("in the 400th: best(400)", x.best(400), 1);
        x.set(1, 2, 1);
        DUE.is("now: best(0)", x.best(0), 1);
        x.set(0, 2, 2);
        DUE.is("now: best(0) then", x.best(0), 0);
        NotedHouse y = Due.houseOf(0, 0, 0, 0, 0, 0, 0, 0);
        for (int p = 0; p < 8; p++) {
            y.set(p, 2, -9999);
        }
        DUE.is("all at the least: best(0)", y.best(0), 0);
        y.set(7, 2, -9998);
        DUE.is("the last seat: best(0)", y.best(0), 7);
        y.set(6, 2, -9998);
        DUE.is("of several the least: best(0)", y.best(0), 6);
        for (int p = 0; p < 8; p++) {
            y.set(p, 2, 9999);
        }
        DUE.is("all at the most: best(400)", y.best(400), 0);
        DUE.is("alone: best(0)", Due.houseOf(Due.SLEEPER).best(0), 0);
        DUE.is("alone: best(400)", Due.houseOf(Due.SLEEPER).best(400), 0);
    }

    private static void bestBeyond() {
        Refused.outside(DUE, NotedHouse::new, "nobody: best(%d)", 0, 400, NotedHouse::best);
        Refused.outside(DUE, Refused::small, "best(%d)", 0, 400, NotedHouse::best);
    }

    private static void bestNone() {
        Refused.is(DUE, NotedHouse::new, "nobody: best(0)", Due.NONE, x -> x.best(0));
        Refused.is(DUE, NotedHouse::new, "nobody: best(400)", Due.NONE, x -> x.best(400));
        NotedHouse x = new NotedHouse();
        x.image();
        x.person(0);
        DUE.is("one is there", x.best(0), 0);
        x.undo();
        DUE.is("and nobody again", x.best(0), Due.NONE);
    }
}
