/** Promises 4 to 10: person, of, scores, set, turn, as, swap; and what each kind does. */
public final class PeopleTest {
    private static final Due DUE = new Due();

    // SCORES by kind: a row for what is done, in it a column for what is asked
    private static final int[][][] SCORES = {
        {{3, -1, -1, -1, -1}, {-2, 3, -2, -2, -2}, {-2, -2, 3, -2, -2}, {-2, -2, -2, 3, -2}, {-2, -2, -2, -2, 3}},
        {{3, -1, -1, -1, -1}, {-2, 3, -2, -2, -2}, {-2, -2, 3, -2, -2}, {-2, -2, -2, 5, -2}, {-2, -2, -2, -2, 3}},
        {{3, -1, -1, -1, -1}, {-1, 4, -1, -1, -1}, {-2, -2, 3, -2, -2}, {-2, -2, -2, 3, -2}, {-2, -2, -2, -2, 3}},
        {{1, -3, -3, -3, -3}, {1, -3, -3, -3, -3}, {1, -3, -3, -3, -3}, {1, -3, -3, -3, -3}, {1, -3, -3, -3, -3}},
        {{3, -1, -1, -1, -1}, {-2, 3, -2, -2, -2}, {-2, -2, 3, -2, -2}, {-2, -2, -2, 5, -2}, {-4, -4, -4, -4, 1}},
        {{3, 0, 0, 0, 0}, {0, 4, 0, 0, 0}, {0, 0, 3, 0, 0}, {0, 0, 0, 3, 0}, {0, 0, 0, 0, 3}},
    };
    private static final int[] STALES = {4, 3, 8, -5, 0, 5};

    public static void main(String[] args) {
        peopleCome();
        ofANewOne();
        ofBeyond();
        scoresOfEach();
        scoresBeyond();
        setTellsWhatItWas();
        setBeyond();
        turns();
        asKinds();
        swaps();
        sittersDo();
        coughersDo();
        weepersDo();
        sleepersDo();
        claquesDo();
        widowsDo();
        DUE.end();
    }

    private static void peopleCome() {
        NotedHouse x = new NotedHouse();
        DUE.is("person(-1)", x.person(-1), Due.BEYOND);
        DUE.is("person(6)", x.person(6), Due.BEYOND);
        DUE.is("person(least)", x.person(Integer.MIN_VALUE), Due.BEYOND);
        DUE.is("person(most)", x.person(Integer.MAX_VALUE), Due.BEYOND);
        DUE.is("none came: count(0)", x.count(0), 0);
        for (int n = 0; n < 8; n++) {
            DUE.is("person " + n, x.person(n % 6), n);
            DUE.is("kind of " + n, x.of(n, 0), n % 6);
            DUE.is("count(0)", x.count(0), n + 1);
        }
        DUE.is("a ninth", x.person(0), Due.FULL);
        DUE.is("a ninth of no kind: BEYOND first", x.person(6), Due.BEYOND);
        DUE.is("full: count(0)", x.count(0), 8);
        DUE.is("full: status(1)", x.status(1), 1);
    }

    private static void ofANewOne() {
        for (int kind = 0; kind < 6; kind++) {
            NotedHouse x = Due.houseOf(kind);
            String one = "new of kind " + kind + ": of(0, ";
            DUE.is(one + "0)", x.of(0, 0), kind);
            DUE.is(one + "1)", x.of(0, 1), 60);
            DUE.is(one + "2)", x.of(0, 2), 10000);
            DUE.is(one + "3)", x.of(0, 3), 0);
            DUE.is(one + "5)", x.of(0, 5), 100 + STALES[kind]);
        }
        NotedHouse x = Due.houseOf(0);
        x.moments(20);
        x.person(5);
        DUE.is("one who comes late: FRESH", x.of(1, 1), 60);
        DUE.is("one who comes late: NOTE", x.of(1, 2), 10000);
        DUE.is("one who comes late: DID", x.of(1, 3), 0);
        NotedHouse y = Due.houseOf(0);
        y.image();
        y.person(3);
        y.set(1, 1, 7);
        y.set(1, 2, 8);
        y.set(1, 3, 4);
        y.undo();
        DUE.is("a seat that was left: person(2)", y.person(2), 1);
        DUE.is("a seat that was left: FRESH", y.of(1, 1), 60);
        DUE.is("a seat that was left: NOTE", y.of(1, 2), 10000);
        DUE.is("a seat that was left: DID", y.of(1, 3), 0);
    }

    private static void ofBeyond() {
        NotedHouse x = Due.houseOf(0, 1);
        int[][] bad = {{-1, 0}, {2, 0}, {0, -1}, {0, 6}, {1, 6}, {Integer.MIN_VALUE, 0}, {Integer.MAX_VALUE, 0},
            {0, Integer.MIN_VALUE}, {0, Integer.MAX_VALUE}, {8, 1}, {2, 4}, {-1, 5}};
        for (int[] b : bad) {
            DUE.is("of(" + b[0] + ", " + b[1] + ")", x.of(b[0], b[1]), Due.BEYOND);
        }
        DUE.is("of beyond: status(0)", x.status(0), bad.length);
    }

    private static void scoresOfEach() {
        for (int kind = 0; kind < 6; kind++) {
            NotedHouse x = Due.houseOf(0, kind);
            for (int d = 0; d < 5; d++) {
                for (int q = 0; q < 5; q++) {
                    DUE.is("kind " + kind + ": scores(1, " + d + ", " + q + ")", x.scores(1, d, q),
                        100 + SCORES[kind][d][q]);
                }
            }
        }
    }

    private static void scoresBeyond() {
        NotedHouse x = Due.houseOf(0, 3);
        int[][] bad = {{-1, 0, 0}, {2, 0, 0}, {0, -1, 0}, {0, 5, 0}, {0, 0, -1}, {0, 0, 5}, {1, 5, 0}, {1, 0, 5},
            {Integer.MAX_VALUE, 0, 0}, {0, Integer.MIN_VALUE, 0}, {0, 0, Integer.MAX_VALUE}};
        for (int[] b : bad) {
            DUE.is("scores(" + b[0] + ", " + b[1] + ", " + b[2] + ")", x.scores(b[0], b[1], b[2]), Due.BEYOND);
        }
        DUE.is("scores beyond: status(0)", x.status(0), bad.length);
    }

    private static void setTellsWhatItWas() {
        NotedHouse x = Due.houseOf(0, 0);
        DUE.is("set(1, 1, 0)", x.set(1, 1, 0), 60);
        DUE.is("set(1, 1, 99)", x.set(1, 1, 99), 0);
        DUE.is("of(1, 1)", x.of(1, 1), 99);
        DUE.is("set(1, 2, -9999)", x.set(1, 2, -9999), 0);
        DUE.is("set(1, 2, 9999)", x.set(1, 2, 9999), -9999);
        DUE.is("of(1, 2)", x.of(1, 2), 19999);
        DUE.is("set(1, 3, 4)", x.set(1, 3, 4), 0);
        DUE.is("set(1, 3, 0)", x.set(1, 3, 0), 4);
        DUE.is("of(1, 3)", x.of(1, 3), 0);
        DUE.is("the other's FRESH", x.of(0, 1), 60);
        DUE.is("the other's NOTE", x.of(0, 2), 10000);
        DUE.is("the other's DID", x.of(0, 3), 0);
    }

    private static void setBeyond() {
        NotedHouse x = Due.houseOf(0, 0);
        int[][] bad = {{-1, 1, 0}, {2, 1, 0}, {0, 0, 0}, {0, 4, 0}, {0, -1, 0}, {0, 1, -1}, {0, 1, 100},
            {0, 2, -10000}, {0, 2, 10000}, {0, 3, -1}, {0, 3, 5}, {0, 1, Integer.MIN_VALUE},
            {0, 2, Integer.MAX_VALUE}, {0, 3, Integer.MIN_VALUE}, {0, Integer.MAX_VALUE, 0}, {2, 4, 100}};
        for (int[] b : bad) {
            DUE.is("set(" + b[0] + ", " + b[1] + ", " + b[2] + ")", x.set(b[0], b[1], b[2]), Due.BEYOND);
        }
        DUE.is("set beyond: status(0)", x.status(0), bad.length);
        DUE.is("set beyond: FRESH", x.of(0, 1), 60);
        DUE.is("set beyond: NOTE", x.of(0, 2), 10000);
        DUE.is("set beyond: DID", x.of(0, 3), 0);
    }

    private static void turns() {
        NotedHouse x = Due.houseOf(0, 1);
        x.set(1, 1, 33);
        x.set(1, 2, -44);
        x.set(1, 3, 2);
        DUE.is("turn(1, 5)", x.turn(1, 5), 1);
        DUE.is("turn(1, 5) again", x.turn(1, 5), 5);
        DUE.is("turned: of(1, 0)", x.of(1, 0), 5);
        DUE.is("turned: FRESH", x.of(1, 1), 33);
        DUE.is("turned: NOTE", x.of(1, 2), 9956);
        DUE.is("turned: DID", x.of(1, 3), 2);
        DUE.is("turned: STALES", x.of(1, 5), 105);
        DUE.is("turned: the other", x.of(0, 0), 0);
        DUE.is("turn(1, 0)", x.turn(1, 0), 5);
        int[][] bad = {{-1, 0}, {2, 0}, {0, -1}, {0, 6}, {Integer.MAX_VALUE, 0}, {0, Integer.MIN_VALUE}};
        for (int[] b : bad) {
            DUE.is("turn(" + b[0] + ", " + b[1] + ")", x.turn(b[0], b[1]), Due.BEYOND);
        }
        DUE.is("turn beyond: of(0, 0)", x.of(0, 0), 0);
    }

    private static void asKinds() {
        // a row for what one is, in it a column for what it is asked as
        boolean[][] under = {
            {true, false, false, false, false, false},
            {true, true, false, false, false, false},
            {true, false, true, false, false, false},
            {true, false, false, true, false, false},
            {true, true, false, false, true, false},
            {true, false, true, false, false, true},
        };
        for (int kind = 0; kind < 6; kind++) {
            NotedHouse x = Due.houseOf(0, kind);
            x.set(1, 1, 17);
            for (int as = 0; as < 6; as++) {
                DUE.is("kind " + kind + ": as(1, " + as + ")", x.as(1, as), under[kind][as] ? 17 : Due.KIND);
            }
        }
        NotedHouse x = Due.houseOf(0);
        DUE.is("as(1, 0)", x.as(1, 0), Due.BEYOND);
        DUE.is("as(-1, 0)", x.as(-1, 0), Due.BEYOND);
        DUE.is("as(0, 6)", x.as(0, 6), Due.BEYOND);
        DUE.is("as(0, -1)", x.as(0, -1), Due.BEYOND);
        DUE.is("as(0, 1)", x.as(0, 1), Due.KIND);
        DUE.is("as: status(0)", x.status(0), 4);
        DUE.is("as: status(2)", x.status(2), 1);
    }

    private static void swaps() {
        NotedHouse x = Due.houseOf(1, 2, 3);
        x.set(0, 1, 10);
        x.set(0, 2, 20);
        x.set(0, 3, 3);
        DUE.is("swap(0, 2)", x.swap(0, 2), 1);
        int[] first = {3, 60, 10000, 0};
        int[] last = {1, 10, 10020, 3};
        for (int what = 0; what < 4; what++) {
            DUE.is("swapped: of(0, " + what + ")", x.of(0, what), first[what]);
            DUE.is("swapped: of(2, " + what + ")", x.of(2, what), last[what]);
        }
        DUE.is("swapped: of(1, 0)", x.of(1, 0), 2);
        DUE.is("swap(2, 0)", x.swap(2, 0), 1);
        DUE.is("back: of(0, 0)", x.of(0, 0), 1);
        int[][] bad = {{0, 0}, {2, 2}, {-1, 0}, {0, -1}, {3, 0}, {0, 3}, {3, 3}, {Integer.MAX_VALUE, 0},
            {0, Integer.MIN_VALUE}};
        for (int[] b : bad) {
            DUE.is("swap(" + b[0] + ", " + b[1] + ")", x.swap(b[0], b[1]), Due.BEYOND);
        }
        DUE.is("swap beyond: status(0)", x.status(0), bad.length);
        DUE.is("swap beyond: of(0, 0)", x.of(0, 0), 1);
    }

    /** What the middle one of three does, its neighbours having done these things. */
    private static void middle(String what, NotedHouse x, int left, int right, int want) {
        x.set(0, 3, left);
        x.set(2, 3, right);
        DUE.is(what + ", neighbours did " + left + " and " + right, x.of(1, 4), want);
    }

    private static void sittersDo() {
        NotedHouse x = Due.houseOf(0, Due.SITTER, 0);
        for (int q = 0; q < 5; q++) {
            x.play(0, 0, q);
            for (int tense = 0; tense <= 20; tense += 5) {
                x.play(0, 1, tense);
                x.set(1, 1, tense);
                middle("sitter, just fresh", x, 3, 1, q);
                if (tense > 0) {
                    x.set(1, 1, tense - 1);
                    middle("sitter, tired", x, 3, 1, 0);
                }
            }
        }
    }

    private static void coughersDo() {
        NotedHouse x = Due.houseOf(0, Due.COUGHER, 0);
        for (int q = 0; q < 5; q++) {
            x.play(0, 0, q);
            x.set(1, 1, 5);
            middle("cougher", x, 0, 0, q);
            middle("cougher", x, 4, 2, q);
            middle("cougher", x, 3, 0, 3);
            middle("cougher", x, 0, 3, 3);
            middle("cougher", x, 3, 3, 3);
            x.set(1, 1, 4);
            middle("cougher, tired", x, 1, 1, 0);
            middle("cougher, tired", x, 3, 1, 3);
        }
        x.set(1, 3, 3);
        middle("its own cough is none of a neighbour", x, 0, 0, 0);
        NotedHouse y = Due.houseOf(Due.COUGHER, 0, 0, Due.COUGHER);
        y.set(3, 3, 3);
        DUE.is("the last is no neighbour of the first", y.of(0, 4), 0);
        y.set(2, 3, 3);
        DUE.is("nor one two seats off", y.of(0, 4), 0);
        DUE.is("the one behind is", y.of(3, 4), 3);
        y.set(1, 3, 3);
        DUE.is("the one ahead is", y.of(0, 4), 3);
    }

    private static void weepersDo() {
        NotedHouse x = Due.houseOf(0, Due.WEEPER, 0);
        for (int q = 0; q < 5; q++) {
            x.play(0, 0, q);
            x.set(1, 1, 40);
            middle("weeper of 40", x, 3, 3, q == 2 ? 2 : 1);
            x.set(1, 1, 39);
            middle("weeper of 39", x, 1, 1, q);
            x.set(1, 1, 4);
            middle("weeper of 4", x, 1, 1, 0);
        }
    }

    private static void sleepersDo() {
        NotedHouse x = Due.houseOf(0, Due.SLEEPER, 0);
        for (int q = 0; q < 5; q++) {
            x.play(0, 0, q);
            x.set(1, 1, 99);
            middle("sleeper", x, 3, 1, 0);
            middle("sleeper", x, 1, 3, 0);
        }
    }

    private static void claquesDo() {
        NotedHouse x = Due.houseOf(0, Due.CLAQUE, 0);
        x.set(1, 1, 0);
        for (int moment = 0; moment < 16; moment++) {
            boolean always = moment == 7 || moment == 15;
            x.play(moment, 0, 4);
            middle("claque, a clap is asked", x, 3, 3, 4);
            x.play(moment, 0, 1);
            middle("claque in " + moment, x, 3, 0, always ? 4 : 3);
            middle("claque, tired, in " + moment, x, 1, 0, always ? 4 : 0);
            x.set(1, 1, 5);
            middle("claque, fresh, in " + moment, x, 0, 0, always ? 4 : 1);
            x.moments(1);
            x.set(1, 1, 0);
        }
    }

    private static void widowsDo() {
        NotedHouse x = Due.houseOf(0, Due.WIDOW, 0);
        for (int q = 0; q < 5; q++) {
            x.play(0, 0, q);
            x.set(1, 1, 0);
            middle("widow, tired", x, 1, 0, 1);
            middle("widow, tired", x, 0, 1, 1);
            middle("widow, tired", x, 3, 2, 0);
            x.set(1, 1, 5);
            middle("widow of 5", x, 3, 3, q);
            x.set(1, 1, 40);
            middle("widow of 40", x, 0, 0, q == 2 ? 2 : 1);
            middle("widow of 40", x, 0, 1, 1);
        }
        x.set(1, 1, 0);
        x.set(1, 3, 1);
        middle("its own sob is none of a neighbour", x, 0, 0, 0);
    }
}
