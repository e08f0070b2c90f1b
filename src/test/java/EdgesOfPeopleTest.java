/** The edges that promises 1 to 10 name: a new object, play, now, person, of, scores, set, turn, as, swap. */
public final class EdgesOfPeopleTest {
    private static final Due DUE = new Due();

    public static void main(String[] args) {
        sentences().run(DUE);
    }

    static Edges sentences() {
        return new Edges()
            .says("Promise 1", "Nobody there; THE TAPE is empty, no image is kept.", EdgesOfPeopleTest::aNewObject)
            .says("Promise 2", "The CUE of a MOMENT (what 0; 0 to 4), TENSE (1; 0 to 20) becomes v: what it was.",
                EdgesOfPeopleTest::playBecomes)
            .says("Promise 2", "BEYOND.", EdgesOfPeopleTest::playBeyond)
            .says("Promise 3", "What 0 NIGHT, 1 MOMENT, 2 its CUE, 3 its TENSE, 4 10000 and HOUSE, 5 who DOES what is asked "
                + "in this MOMENT, as a set, 6 FRESH of all together.", EdgesOfPeopleTest::nowTells)
            .says("Promise 3", "BEYOND.", EdgesOfPeopleTest::nowBeyond)
            .says("Promise 4", "One more: the number.", EdgesOfPeopleTest::oneMore)
            .says("Promise 4", "BEYOND: kind.", EdgesOfPeopleTest::personBeyond)
            .says("Promise 4", "FULL.", EdgesOfPeopleTest::personFull)
            .says("Promise 5", "Of one: what 0 KIND, 1 FRESH, 2 10000 and NOTE, 3 DID, 4 DOES in this MOMENT, "
                + "5 100 and what it STALES.", EdgesOfPeopleTest::ofTells)
            .says("Promise 5", "BEYOND.", EdgesOfPeopleTest::ofBeyond)
            .says("Promise 6", "100 and what one SCORES for doing d (0 to 4), the CUE being q (0 to 4).",
                EdgesOfPeopleTest::scoresTell)
            .says("Promise 6", "BEYOND.", EdgesOfPeopleTest::scoresBeyond)
            .says("Promise 7", "FRESH (what 1), NOTE (2), DID (3) of one becomes v: what it was.",
                EdgesOfPeopleTest::setBecomes)
            .says("Promise 7", "BEYOND.", EdgesOfPeopleTest::setBeyond)
            .says("Promise 8", "One becomes one of another KIND: what it was.", EdgesOfPeopleTest::turns)
            .says("Promise 8", "BEYOND.", EdgesOfPeopleTest::turnBeyond)
            .says("Promise 9", "One as one of a kind: FRESH.", EdgesOfPeopleTest::asOneOfAKind)
            .says("Promise 9", "BEYOND: no such one, kind.", EdgesOfPeopleTest::asBeyond)
            .says("Promise 9", "KIND: it isn't of that kind, nor of one under it.", EdgesOfPeopleTest::asOfNoSuchKind)
            .says("Promise 10", "Two change seats (numbers): 1.", EdgesOfPeopleTest::swaps)
            .says("Promise 10", "BEYOND: also one and the same.", EdgesOfPeopleTest::swapBeyond);
    }

    private static void aNewObject() {
        NotedHouse x = new NotedHouse();
        DUE.is("count(0)", x.count(0), 0);
        DUE.is("count(1)", x.count(1), 0);
        DUE.is("count(3)", x.count(3), 0);
        DUE.is("wipe()", x.wipe(), 0);
        DUE.is("tear()", x.tear(), 0);
        DUE.is("status(-1)", x.status(-1), 0);
        Refused.is(DUE, NotedHouse::new, "undo()", Due.NONE, NotedHouse::undo);
        Refused.is(DUE, NotedHouse::new, "of(0, 0)", Due.BEYOND, y -> y.of(0, 0));
    }

    private static void playBecomes() {
        NotedHouse x = new NotedHouse();
        int[] cues = {4, 0, 0, 4, 2};
        int[] tenses = {20, 0, 0, 20, 10};
        for (int moment : new int[] {0, 15}) {
            int cue = 0;
            int tense = 5;
            for (int i = 0; i < cues.length; i++) {
                DUE.is("play(" + moment + ", 0, " + cues[i] + ")", x.play(moment, 0, cues[i]), cue);
                DUE.is("play(" + moment + ", 1, " + tenses[i] + ")", x.play(moment, 1, tenses[i]), tense);
                cue = cues[i];
                tense = tenses[i];
            }
        }
        DUE.is("CUE of 1 is left", x.play(1, 0, 1), 1);
        DUE.is("CUE of 14 is left", x.play(14, 0, 4), 4);
        DUE.is("TENSE of the others is left", x.count(2), 14 * 5 + 2 * 10);
    }

    private static void playBeyond() {
        Refused.outside(DUE, Refused::small, "play(%d, 0, 0)", 0, 15, (x, v) -> x.play(v, 0, 0));
        Refused.outside(DUE, Refused::small, "play(%d, 1, 0)", 0, 15, (x, v) -> x.play(v, 1, 0));
        Refused.outside(DUE, Refused::small, "play(0, %d, 0)", 0, 1, (x, v) -> x.play(0, v, 0));
        Refused.outside(DUE, Refused::small, "play(15, %d, 4)", 0, 1, (x, v) -> x.play(15, v, 4));
        Refused.outside(DUE, Refused::small, "play(7, 0, %d)", 0, 4, (x, v) -> x.play(7, 0, v));
        Refused.outside(DUE, Refused::small, "play(7, 1, %d)", 0, 20, (x, v) -> x.play(7, 1, v));
    }

    private static void nowTells() {
        NotedHouse x = new NotedHouse();
        int[] atFirst = {0, 0, 0, 5, 10000, 0, 0};
        for (int what = 0; what < 7; what++) {
            DUE.is("nobody: now(" + what + ")", x.now(what), atFirst[what]);
        }
        for (int p = 0; p < 8; p++) {
            x.person(0);
            x.set(p, 1, 99);
            x.set(p, 2, -9999);
        }
        x.play(15, 1, 20);
        x.play(15, 0, 4);
        x.moments(15);
        int[] lastMoment = {0, 15, 4, 20, 10000 + 8 * (15 * 3 - 9999), 255, 8 * 99};
        for (int what = 0; what < 7; what++) {
            DUE.is("in the last moment: now(" + what + ")", x.now(what), lastMoment[what]);
        }
        x.moments(1);
        int[] behind = {1, 0, 0, 5, 10000 + 8 * (16 * 3 - 9999), 255, 8 * 95};
        for (int what = 0; what < 7; what++) {
            DUE.is("behind it: now(" + what + ")", x.now(what), behind[what]);
        }
    }

    private static void nowBeyond() {
        Refused.outside(DUE, NotedHouse::new, "nobody: now(%d)", 0, 6, NotedHouse::now);
        Refused.outside(DUE, Refused::small, "now(%d)", 0, 6, NotedHouse::now);
    }

    private static void oneMore() {
        NotedHouse x = new NotedHouse();
        for (int n = 0; n < 8; n++) {
            DUE.is("person(5)", x.person(5), n);
            DUE.is("how many", x.count(0), n + 1);
            DUE.is("its KIND", x.of(n, 0), 5);
        }
        // one who sits down where somebody was before is new all the same
        NotedHouse y = new NotedHouse();
        y.image();
        y.person(1);
        y.set(0, 1, 7);
        y.set(0, 2, -7);
        y.set(0, 3, 3);
        y.undo();
        DUE.is("in a seat that was left: person(2)", y.person(2), 0);
        int[] isNew = {2, 60, 10000, 0};
        for (int what = 0; what < 4; what++) {
            DUE.is("in a seat that was left: of(0, " + what + ")", y.of(0, what), isNew[what]);
        }
    }

    private static void personBeyond() {
        Refused.outside(DUE, NotedHouse::new, "nobody: person(%d)", 0, 5, NotedHouse::person);
        Refused.outside(DUE, Refused::small, "person(%d)", 0, 5, NotedHouse::person);
    }

    private static void personFull() {
        for (int kind = 0; kind < 6; kind++) {
            int k = kind;
            NotedHouse x = Due.houseOf(0, 0, 0, 0, 0, 0, 0);
            DUE.is("an 8th", x.person(k), 7);
            DUE.is("a 9th", x.person(k), Due.FULL);
            Refused.is(DUE, Refused::full, "person(" + k + ")", Due.FULL, y -> y.person(k));
        }
        NotedHouse z = Due.houseOf(0, 0, 0, 0, 0, 0, 0);
        z.image();
        z.person(0);
        DUE.is("it is full", z.person(0), Due.FULL);
        z.undo();
        DUE.is("and has a seat again", z.person(0), 7);
    }

    private static void ofTells() {
        NotedHouse x = Due.houseOf(Due.SITTER, Due.WIDOW);
        int[] atFirst = {5, 60, 10000, 0, 1, 105};
        for (int what = 0; what < 6; what++) {
            DUE.is("at first: of(1, " + what + ")", x.of(1, what), atFirst[what]);
        }
        x.set(1, 1, 0);
        x.set(1, 2, -9999);
        x.set(1, 3, 4);
        int[] least = {5, 0, 1, 4, 0, 105};
        for (int what = 0; what < 6; what++) {
            DUE.is("at the least: of(1, " + what + ")", x.of(1, what), least[what]);
        }
        x.set(1, 1, 99);
        x.set(1, 2, 9999);
        x.turn(1, Due.SLEEPER);
        int[] most = {3, 99, 19999, 4, 0, 95};
        for (int what = 0; what < 6; what++) {
            DUE.is("at the most: of(1, " + what + ")", x.of(1, what), most[what]);
        }
        int[] other = {0, 60, 10000, 0, 0, 104};
        for (int what = 0; what < 6; what++) {
            DUE.is("of(0, " + what + ")", x.of(0, what), other[what]);
        }
    }

    private static void ofBeyond() {
        Refused.nobodyElse(DUE, "of(%d, 0)", (x, v) -> x.of(v, 0));
        Refused.nobodyElse(DUE, "of(%d, 4)", (x, v) -> x.of(v, 4));
        Refused.outside(DUE, Refused::small, "of(0, %d)", 0, 5, (x, v) -> x.of(0, v));
        Refused.outside(DUE, Refused::small, "of(2, %d)", 0, 5, (x, v) -> x.of(2, v));
    }

    private static void scoresTell() {
        // the first and the last thing done and asked, by kind: 0 for 0, 0 for 4, 4 for 0, 4 for 4
        int[][] want = {{3, -1, -2, 3}, {3, -1, -2, 3}, {3, -1, -2, 3}, {1, -3, 1, -3}, {3, -1, -4, 1}, {3, 0, 0, 3}};
        for (int kind = 0; kind < 6; kind++) {
            NotedHouse x = Due.houseOf(kind);
            DUE.is(kind + ": scores(0, 0, 0)", x.scores(0, 0, 0), 100 + want[kind][0]);
            DUE.is(kind + ": scores(0, 0, 4)", x.scores(0, 0, 4), 100 + want[kind][1]);
            DUE.is(kind + ": scores(0, 4, 0)", x.scores(0, 4, 0), 100 + want[kind][2]);
            DUE.is(kind + ": scores(0, 4, 4)", x.scores(0, 4, 4), 100 + want[kind][3]);
        }
    }

    private static void scoresBeyond() {
        Refused.nobodyElse(DUE, "scores(%d, 0, 0)", (x, v) -> x.scores(v, 0, 0));
        for (int kind = 0; kind < 6; kind++) {
            int k = kind;
            Refused.outside(DUE, () -> Due.houseOf(k), k + ": scores(0, %d, 0)", 0, 4, (x, v) -> x.scores(0, v, 0));
            Refused.outside(DUE, () -> Due.houseOf(k), k + ": scores(0, 0, %d)", 0, 4, (x, v) -> x.scores(0, 0, v));
        }
        Refused.is(DUE, Refused::small, "scores(0, 5, 5)", Due.BEYOND, x -> x.scores(0, 5, 5));
        Refused.is(DUE, Refused::small, "scores(0, -1, -1)", Due.BEYOND, x -> x.scores(0, -1, -1));
    }

    private static void setBecomes() {
        int[][] becomes = {{1, 60, 0, 99, 0, 0}, {2, 0, -9999, 9999, -9999, -9999}, {3, 0, 4, 0, 4, 4}};
        NotedHouse x = Due.houseOf(0, 0, 0, 0, 0, 0, 0, 0);
        for (int p : new int[] {0, 7}) {
            for (int[] b : becomes) {
                for (int i = 2; i < b.length; i++) {
                    DUE.is("set(" + p + ", " + b[0] + ", " + b[i] + ")", x.set(p, b[0], b[i]), b[i - 1]);
                }
                DUE.is("of(" + p + ", " + b[0] + ")", x.of(p, b[0]), b[5] + (b[0] == 2 ? 10000 : 0));
            }
        }
        int[] left = {0, 60, 10000, 0};
        for (int what = 0; what < 4; what++) {
            DUE.is("the one beside is left: of(1, " + what + ")", x.of(1, what), left[what]);
            DUE.is("the one beside is left: of(6, " + what + ")", x.of(6, what), left[what]);
        }
    }

    private static void setBeyond() {
        for (int what = 1; what <= 3; what++) {
            int w = what;
            Refused.nobodyElse(DUE, "set(%d, " + w + ", 0)", (x, v) -> x.set(v, w, 0));
        }
        Refused.outside(DUE, Refused::small, "set(1, %d, 3)", 1, 3, (x, v) -> x.set(1, v, 3));
        Refused.outside(DUE, Refused::small, "set(1, 1, %d)", 0, 99, (x, v) -> x.set(1, 1, v));
        Refused.outside(DUE, Refused::small, "set(1, 2, %d)", -9999, 9999, (x, v) -> x.set(1, 2, v));
        Refused.outside(DUE, Refused::small, "set(1, 3, %d)", 0, 4, (x, v) -> x.set(1, 3, v));
    }

    private static void turns() {
        for (int was = 0; was < 6; was++) {
            for (int kind = 0; kind < 6; kind++) {
                NotedHouse x = Due.houseOf(0, was);
                x.set(1, 1, 99);
                x.set(1, 2, -9999);
                x.set(1, 3, 4);
                DUE.is("turn(1, " + kind + ")", x.turn(1, kind), was);
                DUE.is("KIND then", x.of(1, 0), kind);
                DUE.is("FRESH is left", x.of(1, 1), 99);
                DUE.is("NOTE is left", x.of(1, 2), 1);
                DUE.is("DID is left", x.of(1, 3), 4);
                DUE.is("the other is left", x.of(0, 0), 0);
            }
        }
    }

    private static void turnBeyond() {
        Refused.nobodyElse(DUE, "turn(%d, 3)", (x, v) -> x.turn(v, 3));
        Refused.outside(DUE, Refused::small, "turn(0, %d)", 0, 5, (x, v) -> x.turn(0, v));
        Refused.outside(DUE, Refused::full, "turn(7, %d)", 0, 5, (x, v) -> x.turn(7, v));
    }

    private static void asOneOfAKind() {
        NotedHouse x = Due.houseOf(0, 1, 2, 3, 4, 5);
        int[][] may = {{0}, {0, 1}, {0, 2}, {0, 3}, {0, 1, 4}, {0, 2, 5}};
        for (int p = 0; p < 6; p++) {
            for (int fresh : new int[] {0, 99}) {
                x.set(p, 1, fresh);
                for (int kind : may[p]) {
                    DUE.is("as(" + p + ", " + kind + ")", x.as(p, kind), fresh);
                }
            }
        }
        DUE.is("status(-1)", x.status(-1), 0);
    }

    private static void asBeyond() {
        Refused.nobodyElse(DUE, "as(%d, 0)", (x, v) -> x.as(v, 0));
        Refused.outside(DUE, Refused::small, "as(0, %d)", 0, 5, (x, v) -> x.as(0, v));
        Refused.outside(DUE, Refused::small, "as(1, %d)", 0, 5, (x, v) -> x.as(1, v));
    }

    private static void asOfNoSuchKind() {
        int[][] mayNot = {{1, 2, 3, 4, 5}, {2, 3, 4, 5}, {1, 3, 4, 5}, {1, 2, 4, 5}, {2, 3, 5}, {1, 3, 4}};
        for (int was = 0; was < 6; was++) {
            int w = was;
            for (int kind : mayNot[was]) {
                Refused.is(DUE, () -> Due.houseOf(w), w + ": as(0, " + kind + ")", Due.KIND, x -> x.as(0, kind));
            }
        }
        NotedHouse y = Due.houseOf(Due.SITTER);
        DUE.is("a SITTER is no WEEPER", y.as(0, Due.WEEPER), Due.KIND);
        y.turn(0, Due.WIDOW);
        DUE.is("a WIDOW is", y.as(0, Due.WEEPER), 60);
        y.turn(0, Due.CLAQUE);
        DUE.is("a CLAQUE is none", y.as(0, Due.WEEPER), Due.KIND);
    }

    private static void swaps() {
        for (int[] pair : new int[][] {{0, 7}, {7, 0}, {0, 1}, {7, 6}}) {
            NotedHouse x = Due.houseOf(0, 1, 2, 3, 4, 5, 1, 2);
            for (int p = 0; p < 8; p++) {
                x.set(p, 1, 10 + p);
                x.set(p, 2, 20 + p);
                x.set(p, 3, p % 5);
            }
            int[] kinds = {0, 1, 2, 3, 4, 5, 1, 2};
            DUE.is("swap(" + pair[0] + ", " + pair[1] + ")", x.swap(pair[0], pair[1]), 1);
            for (int p = 0; p < 8; p++) {
                int was = p == pair[0] ? pair[1] : p == pair[1] ? pair[0] : p;
                DUE.is("KIND in " + p, x.of(p, 0), kinds[was]);
                DUE.is("FRESH in " + p, x.of(p, 1), 10 + was);
                DUE.is("NOTE in " + p, x.of(p, 2), 10020 + was);
                DUE.is("DID in " + p, x.of(p, 3), was % 5);
            }
        }
    }

    private static void swapBeyond() {
        for (int same : new int[] {0, 1, 2}) {
            Refused.is(DUE, Refused::small, "swap(" + same + ", " + same + ")", Due.BEYOND, x -> x.swap(same, same));
        }
        Refused.outside(DUE, Refused::small, "swap(%d, 1)", 0, 2, (x, v) -> x.swap(v, 1));
        Refused.outside(DUE, Refused::small, "swap(1, %d)", 0, 2, (x, v) -> x.swap(1, v));
        Refused.outside(DUE, Refused::full, "swap(%d, 3)", 0, 7, (x, v) -> x.swap(v, 3));
        Refused.outside(DUE, Refused::full, "swap(3, %d)", 0, 7, (x, v) -> x.swap(3, v));
        Refused.is(DUE, () -> Due.houseOf(0), "alone: swap(0, 1)", Due.BEYOND, x -> x.swap(0, 1));
        Refused.is(DUE, () -> Due.houseOf(0), "alone: swap(0, 0)", Due.BEYOND, x -> x.swap(0, 0));
        Refused.is(DUE, NotedHouse::new, "nobody: swap(0, 1)", Due.BEYOND, x -> x.swap(0, 1));
    }
}
