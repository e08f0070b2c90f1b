/** The edges that the Terms name, but for the text's and the sheets': play, people, kinds, moments, findings. */
public final class EdgesOfTermsTest {
    private static final Due DUE = new Due();

    public static void main(String[] args) {
        sentences().run(DUE);
    }

    static Edges sentences() {
        String terms = "Terms";
        return new Edges()
            .says(terms, "FINDINGS are answers below -1000000000: -1000000001 BEYOND, -1000000002 FULL, -1000000003 KIND, "
                + "-1000000004 NONE, -1000000005 STATE, -1000000006 MISSING, -1000000007 SIZE (in longs, too).",
                EdgesOfTermsTest::findingsHaveTheirNumbers)
            .says(terms, "Each act tells its findings in the order in which they are asked; "
                + "one that answers a finding changes nothing but status().", EdgesOfTermsTest::theFirstAskedIsTold)
            .says(terms, "Sets are told by bits.", EdgesOfTermsTest::eachHasItsBit)
            .says(terms, "NIGHT: 0 at first (9999 at most).", EdgesOfTermsTest::nights)
            .says(terms, "MOMENT: 0 to 15 of the play (0 at first).", EdgesOfTermsTest::momentsOfThePlay)
            .says(terms, "A CUE for each: what it asks: 0 stillness, 1 a sob, 2 a laugh, 3 a cough, 4 a clap (that of "
                + "moment i at first the rest of i by 5); and TENSE (0 to 20; 5 at first).",
                EdgesOfTermsTest::cuesAndTense)
            .says(terms, "PEOPLE 0, 1, .. (at most 8), each in the seat of its number, are of KINDS: 0 SITTER, 1 COUGHER "
                + "under SITTER, 2 WEEPER under SITTER, 3 SLEEPER under SITTER, 4 CLAQUE under COUGHER, 5 WIDOW under "
                + "WEEPER; each FRESH (0 to 99; 60 at first), NOTE (-9999 to 9999; 0 at first), DID (what it did in the "
                + "moment that went last: 0 to 4 as in CUES; 0 at first).", EdgesOfTermsTest::people)
            .says(terms, "Its NEIGHBOURS sit in the seats of 1 less and of 1 more, if these are there.",
                EdgesOfTermsTest::neighbours)
            .says(terms, "DOES (what it does, the CUE being q, and TENSE t): SITTER: q, if FRESH is t or more, else 0.",
                EdgesOfTermsTest::sitterDoes)
            .says(terms, "COUGHER: 3, if a NEIGHBOUR DID 3; else as SITTER.", EdgesOfTermsTest::cougherDoes)
            .says(terms, "WEEPER: 1, if FRESH is 40 or more and q isn't 2; else as SITTER.",
                EdgesOfTermsTest::weeperDoes)
            .says(terms, "SLEEPER: 0.", EdgesOfTermsTest::sleeperDoes)
            .says(terms, "CLAQUE: 4, if q is 4 or the rest of MOMENT by 8 is 7; else as COUGHER.",
                EdgesOfTermsTest::claqueDoes)
            .says(terms, "WIDOW: 1, if a NEIGHBOUR DID 1; else as WEEPER.", EdgesOfTermsTest::widowDoes)
            .says(terms, "SCORES (NOTE for doing d, the CUE being q): SITTER: 3, if d is q; -1, if d is 0; else -2.",
                EdgesOfTermsTest::sitterScores)
            .says(terms, "COUGHER: as SITTER, but 5 for a cough that is asked.", EdgesOfTermsTest::cougherScores)
            .says(terms, "WEEPER: as SITTER, and 1 for any sob.", EdgesOfTermsTest::weeperScores)
            .says(terms, "SLEEPER: 1, if q is 0, else -3.", EdgesOfTermsTest::sleeperScores)
            .says(terms, "CLAQUE: as COUGHER, less 2 for any clap.", EdgesOfTermsTest::claqueScores)
            .says(terms, "WIDOW: as WEEPER, but 0 at least.", EdgesOfTermsTest::widowScores)
            .says(terms, "STALES (FRESH less behind a night): SITTER: 4.", () -> stales(Due.SITTER, 4))
            .says(terms, "COUGHER: as SITTER, less 1.", () -> stales(Due.COUGHER, 3))
            .says(terms, "WEEPER: as SITTER, twice that.", () -> stales(Due.WEEPER, 8))
            .says(terms, "SLEEPER: -5.", () -> stales(Due.SLEEPER, -5))
            .says(terms, "CLAQUE: 0.", () -> stales(Due.CLAQUE, 0))
            .says(terms, "WIDOW: as WEEPER, less 3.", () -> stales(Due.WIDOW, 5))
            .says(terms, "A MOMENT goes: what each DOES is found out first, of all (by what they DID).",
                EdgesOfTermsTest::foundOutFirst)
            .says(terms, "Then by numbers: NOTE is what it SCORES more (held); DID is that.",
                EdgesOfTermsTest::notesAreHeld)
            .says(terms, "MOMENT is 1 more; behind 15 it is 0 again: then FRESH of each is what it STALES less (0 to 99 "
                + "held), DID 0, and NIGHT is 1 more.", EdgesOfTermsTest::behindTheLastMoment)
            .says(terms, "HOUSE: NOTES of all together.", EdgesOfTermsTest::houseIsNotHeld)
            .says(terms, "ON: n MOMENTS go on with all as it is; nothing changes.", EdgesOfTermsTest::onChangesNothing);
    }

    private static void findingsHaveTheirNumbers() {
        NotedHouse x = Due.houseOf(0, 0, 0, 0, 0, 0, 0, 0);
        x.sheet(1, 64, 1);
        DUE.is("BEYOND", x.now(7), -1000000001L);
        DUE.is("FULL", x.person(0), -1000000002L);
        DUE.is("KIND", x.as(0, 1), -1000000003L);
        DUE.is("NONE", x.undo(), -1000000004L);
        DUE.is("MISSING", x.lays(0), -1000000006L);
        DUE.is("SIZE", x.sheet(0, 8, -1), -1000000007L);
        DUE.is("BEYOND in longs", x.write(4, 0, 0), -1000000001L);
        DUE.is("MISSING in longs", x.write(0, 0, 0), -1000000006L);
        int[] counted = {2, 1, 1, 1, 0, 2, 1};
        for (int which = 0; which < 7; which++) {
            DUE.is("status(" + which + ")", x.status(which), counted[which]);
        }
        // a number of a sheet may look like a finding, and is none
        for (long v = -1000000007L; v <= -1000000000L; v++) {
            x.write(1, 0, v);
            DUE.is(v + " in a sheet", x.write(1, 0, 0), v);
        }
        DUE.is("status(-1) then", x.status(-1), 8);
    }

    private static void theFirstAskedIsTold() {
        Refused.is(DUE, Refused::full, "person(6) where it is full", Due.BEYOND, x -> x.person(6));
        Refused.is(DUE, Refused::full, "person(5) where it is full", Due.FULL, x -> x.person(5));
        Refused.is(DUE, Refused::full, "feed(0, 5) where it is full", Due.BEYOND, x -> x.feed(0, 5));
        Refused.is(DUE, Refused::full, "feed(0, 4) where it is full", Due.FULL, x -> x.feed(0, 4));
        Refused.is(DUE, Refused::small, "as(3, 1)", Due.BEYOND, x -> x.as(3, 1));
        Refused.is(DUE, Refused::small, "as(0, 6)", Due.BEYOND, x -> x.as(0, 6));
        Refused.is(DUE, Refused::small, "as(0, 5)", Due.KIND, x -> x.as(0, 5));
        Refused.is(DUE, NotedHouse::new, "doze(101) of nobody", Due.BEYOND, x -> x.doze(101));
        Refused.is(DUE, NotedHouse::new, "doze(100) of nobody", Due.NONE, x -> x.doze(100));
        Refused.is(DUE, NotedHouse::new, "best(401) of nobody", Due.BEYOND, x -> x.best(401));
        Refused.is(DUE, NotedHouse::new, "best(400) of nobody", Due.NONE, x -> x.best(400));
        Refused.is(DUE, Refused::small, "comes(0, 10000)", Due.BEYOND, x -> x.comes(0, 10000));
        Refused.is(DUE, Refused::small, "comes(0, 9999)", Due.NONE, x -> x.comes(0, 9999));
        Refused.is(DUE, Refused::small, "sheet(4, 8, -1)", Due.BEYOND, x -> x.sheet(4, 8, -1));
        Refused.is(DUE, Refused::small, "sheet(3, 9, -1)", Due.BEYOND, x -> x.sheet(3, 9, -1));
        Refused.is(DUE, Refused::small, "sheet(3, 8, -1)", Due.SIZE, x -> x.sheet(3, 8, -1));
        Refused.is(DUE, Refused::small, "write(4, 99, 0)", Due.BEYOND, x -> x.write(4, 99, 0));
        Refused.is(DUE, Refused::small, "write(3, 99, 0)", Due.MISSING, x -> x.write(3, 99, 0));
        Refused.is(DUE, Refused::small, "copy(3, 0, 4, 0, 0)", Due.BEYOND, x -> x.copy(3, 0, 4, 0, 0));
        Refused.is(DUE, Refused::small, "copy(0, 99, 3, 0, 0)", Due.MISSING, x -> x.copy(0, 99, 3, 0, 0));
        Refused.is(DUE, Refused::small, "copy(0, 99, 2, 0, 0)", Due.KIND, x -> x.copy(0, 99, 2, 0, 0));
        Refused.is(DUE, Refused::small, "book(4, 9)", Due.BEYOND, x -> x.book(4, 9));
        Refused.is(DUE, Refused::small, "book(3, 9)", Due.MISSING, x -> x.book(3, 9));
        Refused.is(DUE, Refused::small, "read(4, 9)", Due.BEYOND, x -> x.read(4, 9));
        Refused.is(DUE, Refused::small, "read(3, 9)", Due.MISSING, x -> x.read(3, 9));
    }

    private static void eachHasItsBit() {
        NotedHouse x = Due.houseOf(0, 0, 0, 0, 0, 0, 0, 0);
        x.play(0, 0, 1);
        DUE.is("all do: now(5)", x.now(5), 255);
        for (int p = 0; p < 8; p++) {
            x.set(p, 1, 0);
        }
        DUE.is("nobody does: now(5)", x.now(5), 0);
        for (int p = 0; p < 8; p++) {
            x.set(p, 1, 5);
            DUE.is(p + " does: now(5)", x.now(5), 1 << p);
            x.set(p, 1, 4);
        }
        DUE.is("nobody is there: now(5)", new NotedHouse().now(5), 0);
    }

    private static void nights() {
        NotedHouse x = new NotedHouse();
        DUE.is("now(0) at first", x.now(0), 0);
        x.moments(15);
        DUE.is("now(0) in the last moment", x.now(0), 0);
        x.moments(1);
        DUE.is("now(0) behind it", x.now(0), 1);
        // as far as 512 calls go there is no STATE: 500 times 200 moments are 6250 nights
        for (int i = 0; i < 500; i++) {
            x.moments(200);
        }
        DUE.is("now(0) far on", x.now(0), 6251);
        DUE.is("status(-1)", x.status(-1), 0);
    }

    private static void momentsOfThePlay() {
        NotedHouse x = new NotedHouse();
        for (int n = 0; n <= 33; n++) {
            DUE.is("MOMENT behind " + n, x.now(1), n % 16);
            x.moments(1);
        }
        Refused.outside(DUE, Refused::small, "play(%d, 0, 1)", 0, 15, (y, v) -> y.play(v, 0, 1));
        Refused.outside(DUE, Refused::small, "play(%d, 1, 1)", 0, 15, (y, v) -> y.play(v, 1, 1));
    }

    private static void cuesAndTense() {
        NotedHouse x = new NotedHouse();
        int[] cues = {0, 1, 2, 3, 4, 0, 1, 2, 3, 4, 0, 1, 2, 3, 4, 0};
        for (int i = 0; i < 16; i++) {
            DUE.is("CUE of " + i + " at first", x.play(i, 0, 4), cues[i]);
            DUE.is("TENSE of " + i + " at first", x.play(i, 1, 20), 5);
        }
        for (int i = 0; i < 16; i++) {
            DUE.is("CUE of " + i + " at most", x.play(i, 0, 0), 4);
            DUE.is("TENSE of " + i + " at most", x.play(i, 1, 0), 20);
        }
        DUE.is("TENSE of all at least", x.count(2), 0);
        Refused.outside(DUE, Refused::small, "play(0, 0, %d)", 0, 4, (y, v) -> y.play(0, 0, v));
        Refused.outside(DUE, Refused::small, "play(15, 0, %d)", 0, 4, (y, v) -> y.play(15, 0, v));
        Refused.outside(DUE, Refused::small, "play(0, 1, %d)", 0, 20, (y, v) -> y.play(0, 1, v));
        Refused.outside(DUE, Refused::small, "play(15, 1, %d)", 0, 20, (y, v) -> y.play(15, 1, v));
    }

    private static void people() {
        NotedHouse x = new NotedHouse();
        for (int n = 0; n < 8; n++) {
            DUE.is("one more: the number", x.person(n % 6), n);
            DUE.is("FRESH at first", x.of(n, 1), 60);
            DUE.is("NOTE at first", x.of(n, 2), 10000);
            DUE.is("DID at first", x.of(n, 3), 0);
        }
        DUE.is("a 9th", x.person(0), Due.FULL);
        DUE.is("still eight", x.count(0), 8);
        // each is under these, by bits, and under no other
        int[] under = {1, 3, 5, 9, 19, 37};
        for (int p = 0; p < 6; p++) {
            for (int kind = 0; kind < 6; kind++) {
                DUE.is("as(" + p + ", " + kind + ")", x.as(p, kind), (under[p] >> kind & 1) == 1 ? 60 : Due.KIND);
            }
        }
        int[][] edges = {{1, 0, 99}, {2, -9999, 9999}, {3, 0, 4}};
        for (int[] e : edges) {
            Refused.outside(DUE, Refused::full, "set(7, " + e[0] + ", %d)", e[1], e[2], (y, v) -> y.set(7, e[0], v));
            x.set(7, e[0], e[1]);
            DUE.is("the least of " + e[0], x.set(7, e[0], e[2]), e[1]);
            DUE.is("the most of " + e[0], x.set(7, e[0], 0), e[2]);
        }
    }

    /** What each of the coughers does, somebody having coughed: as a set. */
    private static int coughing(NotedHouse x) {
        int set = 0;
        for (int p = 0; p < x.count(0); p++) {
            set |= x.of(p, 4) == 3 ? 1 << p : 0;
        }
        return set;
    }

    private static void neighbours() {
        NotedHouse x = Due.houseOf(1, 1, 1, 1, 1, 1, 1, 1);
        for (int p = 0; p < 8; p++) {
            x.set(p, 3, 3);
            int left = p > 0 ? 1 << p - 1 : 0;
            int right = p < 7 ? 1 << p + 1 : 0;
            DUE.is(p + " of eight coughed: beside it", coughing(x), left | right);
            x.set(p, 3, 0);
        }
        NotedHouse alone = Due.houseOf(1);
        alone.set(0, 3, 3);
        DUE.is("alone: its own cough", coughing(alone), 0);
        alone.person(1);
        DUE.is("a second sits down beside it", coughing(alone), 2);
        // a seat out of which one has gone again holds nobody, whatever was done there
        NotedHouse left = Due.houseOf(1);
        left.image();
        left.person(1);
        left.set(1, 3, 3);
        DUE.is("beside one", coughing(left), 1);
        left.undo();
        DUE.is("beside a seat that is empty again", coughing(left), 0);
        DUE.is("a moment on there", left.moments(1), 1);
        DUE.is("DID then", left.of(0, 3), 0);
    }

    private static void sitterDoes() {
        NotedHouse x = Due.houseOf(Due.SITTER);
        for (int q = 0; q < 5; q++) {
            x.play(0, 0, q);
            for (int t : new int[] {0, 1, 5, 19, 20}) {
                x.play(0, 1, t);
                x.set(0, 1, t);
                DUE.is("FRESH just TENSE " + t + ", asked " + q, x.of(0, 4), q);
                x.set(0, 1, t + 1);
                DUE.is("FRESH 1 above TENSE " + t + ", asked " + q, x.of(0, 4), q);
                x.set(0, 1, Math.max(0, t - 1));
                DUE.is("FRESH 1 below TENSE " + t + ", asked " + q, x.of(0, 4), t == 0 ? q : 0);
            }
        }
    }

    /** What the middle one of three does by what those beside it did. */
    private static int between(NotedHouse x, int left, int right) {
        x.set(0, 3, left);
        x.set(2, 3, right);
        return x.of(1, 4);
    }

    private static void cougherDoes() {
        for (int q = 0; q < 5; q++) {
            NotedHouse x = Due.houseOf(0, Due.COUGHER, 0);
            x.play(0, 0, q);
            for (int fresh : new int[] {0, 4, 5, 99}) {
                x.set(1, 1, fresh);
                int asSitter = fresh < 5 ? 0 : q;
                for (int did = 0; did < 5; did++) {
                    DUE.is("left did " + did, between(x, did, 0), did == 3 ? 3 : asSitter);
                    DUE.is("right did " + did, between(x, 0, did), did == 3 ? 3 : asSitter);
                }
                DUE.is("both did 3", between(x, 3, 3), 3);
            }
        }
    }

    private static void weeperDoes() {
        NotedHouse x = Due.houseOf(0, Due.WEEPER, 0);
        x.play(0, 1, 20);
        for (int q = 0; q < 5; q++) {
            x.play(0, 0, q);
            int[] fresh = {0, 19, 20, 39, 40, 41, 99};
            int[] does = {0, 0, q, q, q == 2 ? 2 : 1, q == 2 ? 2 : 1, q == 2 ? 2 : 1};
            for (int i = 0; i < fresh.length; i++) {
                x.set(1, 1, fresh[i]);
                DUE.is("of " + fresh[i] + ", asked " + q, between(x, 0, 0), does[i]);
                DUE.is("of " + fresh[i] + ", asked " + q + ", beside sobs", between(x, 1, 1), does[i]);
            }
        }
    }

    private static void sleeperDoes() {
        NotedHouse x = Due.houseOf(0, Due.SLEEPER, 0);
        for (int q = 0; q < 5; q++) {
            x.play(0, 0, q);
            for (int fresh : new int[] {0, 5, 40, 99}) {
                x.set(1, 1, fresh);
                for (int did = 0; did < 5; did++) {
                    DUE.is("of " + fresh + ", asked " + q + ", beside " + did, between(x, did, did), 0);
                }
            }
        }
    }

    private static void claqueDoes() {
        NotedHouse x = Due.houseOf(0, Due.CLAQUE, 0);
        x.set(1, 1, 5);
        for (int moment = 0; moment < 16; moment++) {
            boolean seventh = moment == 7 || moment == 15;
            for (int q : new int[] {4, 3, 1}) {
                x.play(moment, 0, q);
                DUE.is("in " + moment + ", asked " + q, between(x, 0, 0), seventh ? 4 : q);
                DUE.is("in " + moment + ", asked " + q + ", beside a cough", between(x, 3, 0), seventh || q == 4 ? 4 : 3);
            }
            x.set(1, 1, 4);
            DUE.is("tired, in " + moment, between(x, 0, 0), seventh ? 4 : 0);
            x.play(moment, 0, 4);
            DUE.is("tired, in " + moment + ", a clap being asked", between(x, 0, 3), 4);
            x.moments(1);
            x.set(1, 1, 5);
        }
    }

    private static void widowDoes() {
        for (int q = 0; q < 5; q++) {
            NotedHouse x = Due.houseOf(0, Due.WIDOW, 0);
            x.play(0, 0, q);
            int[] fresh = {0, 4, 5, 39, 40, 99};
            int[] does = {0, 0, q, q, q == 2 ? 2 : 1, q == 2 ? 2 : 1};
            for (int i = 0; i < fresh.length; i++) {
                x.set(1, 1, fresh[i]);
                for (int did = 0; did < 5; did++) {
                    DUE.is("left did " + did, between(x, did, 0), did == 1 ? 1 : does[i]);
                    DUE.is("right did " + did, between(x, 0, did), did == 1 ? 1 : does[i]);
                }
            }
        }
    }

    /** Rows for what is done, in them what it scores as 0, 1, .. 4 is asked. */
    private static void scores(int kind, int[][] want) {
        NotedHouse x = Due.houseOf(kind);
        for (int d = 0; d < 5; d++) {
            for (int q = 0; q < 5; q++) {
                DUE.is("scores(0, " + d + ", " + q + ")", x.scores(0, d, q), 100 + want[d][q]);
            }
        }
    }

    private static void sitterScores() {
        scores(Due.SITTER, new int[][] {{3, -1, -1, -1, -1}, {-2, 3, -2, -2, -2}, {-2, -2, 3, -2, -2},
            {-2, -2, -2, 3, -2}, {-2, -2, -2, -2, 3}});
    }

    private static void cougherScores() {
        scores(Due.COUGHER, new int[][] {{3, -1, -1, -1, -1}, {-2, 3, -2, -2, -2}, {-2, -2, 3, -2, -2},
            {-2, -2, -2, 5, -2}, {-2, -2, -2, -2, 3}});
    }

    private static void weeperScores() {
        scores(Due.WEEPER, new int[][] {{3, -1, -1, -1, -1}, {-1, 4, -1, -1, -1}, {-2, -2, 3, -2, -2},
            {-2, -2, -2, 3, -2}, {-2, -2, -2, -2, 3}});
    }

    private static void sleeperScores() {
        scores(Due.SLEEPER, new int[][] {{1, -3, -3, -3, -3}, {1, -3, -3, -3, -3}, {1, -3, -3, -3, -3},
            {1, -3, -3, -3, -3}, {1, -3, -3, -3, -3}});
    }

    private static void claqueScores() {
        scores(Due.CLAQUE, new int[][] {{3, -1, -1, -1, -1}, {-2, 3, -2, -2, -2}, {-2, -2, 3, -2, -2},
            {-2, -2, -2, 5, -2}, {-4, -4, -4, -4, 1}});
    }

    private static void widowScores() {
        scores(Due.WIDOW, new int[][] {{3, 0, 0, 0, 0}, {0, 4, 0, 0, 0}, {0, 0, 3, 0, 0}, {0, 0, 0, 3, 0},
            {0, 0, 0, 0, 3}});
    }

    /** Behind a night, from every FRESH: so much less, and held at both ends. */
    private static void stales(int kind, int less) {
        NotedHouse x = Due.houseOf(kind);
        DUE.is("of(0, 5)", x.of(0, 5), 100 + less);
        for (int fresh = 0; fresh <= 99; fresh++) {
            x.set(0, 1, fresh);
            DUE.is(fresh + " in the last moment", x.on(0, 15, 0), fresh);
            int want = fresh - less < 0 ? 0 : fresh - less > 99 ? 99 : fresh - less;
            DUE.is(fresh + " behind a night", x.on(0, 16, 0), want);
        }
    }

    private static void foundOutFirst() {
        // nobody hears what is done in the same moment: neither to the right nor to the left
        for (int from : new int[] {0, 7}) {
            NotedHouse x = Due.houseOf(1, 1, 1, 1, 1, 1, 1, 1);
            Due.playAll(x, 0, 0);
            x.set(from, 3, 3);
            x.moments(1);
            for (int p = 0; p < 8; p++) {
                boolean beside = Math.abs(p - from) == 1;
                DUE.is("DID of " + p + ", " + from + " having coughed", x.of(p, 3), beside ? 3 : 0);
                DUE.is("NOTE of " + p + ", " + from + " having coughed", x.of(p, 2), beside ? 9998 : 10003);
            }
        }
        NotedHouse y = Due.houseOf(1, 1);
        Due.playAll(y, 0, 0);
        y.set(0, 3, 3);
        y.moments(1);
        DUE.is("they change: DID of 0", y.of(0, 3), 0);
        DUE.is("they change: DID of 1", y.of(1, 3), 3);
        y.moments(1);
        DUE.is("and again: DID of 0", y.of(0, 3), 3);
        DUE.is("and again: DID of 1", y.of(1, 3), 0);
    }

    private static void notesAreHeld() {
        // a sitter that does as asked (3), one that is still (-1), a sleeper where a sob is asked (-3)
        int[] kinds = {Due.SITTER, Due.SITTER, Due.SLEEPER};
        int[] more = {3, -1, -3};
        for (int note : new int[] {-9999, -9998, -9997, -9996, -9995, 0, 9995, 9996, 9997, 9998, 9999}) {
            NotedHouse x = Due.houseOf(kinds);
            Due.playAll(x, 1, 20);
            x.set(1, 1, 19);
            for (int p = 0; p < 3; p++) {
                x.set(p, 2, note);
            }
            x.moments(1);
            for (int p = 0; p < 3; p++) {
                int want = Math.max(-9999, Math.min(9999, note + more[p]));
                DUE.is(note + " and " + more[p], x.of(p, 2), 10000 + want);
                DUE.is("DID of " + p, x.of(p, 3), p == 0 ? 1 : 0);
            }
        }
        // what is held is gone: it comes back from the edge, not from beyond it
        NotedHouse y = Due.houseOf(Due.SITTER);
        Due.playAll(y, 0, 0);
        y.set(0, 2, 9999);
        y.moments(10);
        DUE.is("held ten times", y.of(0, 2), 19999);
        Due.playAll(y, 1, 20);
        y.set(0, 1, 0);
        y.moments(1);
        DUE.is("1 less then", y.of(0, 2), 19998);
    }

    private static void behindTheLastMoment() {
        NotedHouse x = Due.houseOf(0, 1, 2, 3, 4, 5);
        int[] fresh = {3, 3, 7, 95, 0, 6};
        for (int p = 0; p < 6; p++) {
            x.set(p, 1, fresh[p]);
        }
        x.moments(14);
        DUE.is("MOMENT 14 goes: MOMENT", x.moments(1), 15);
        DUE.is("MOMENT 14 goes: NIGHT", x.now(0), 0);
        DUE.is("MOMENT 14 goes: FRESH", x.count(3), 3 + 3 + 7 + 95 + 6);
        for (int p = 0; p < 6; p++) {
            x.set(p, 3, 2);
        }
        DUE.is("MOMENT 15 goes: MOMENT", x.moments(1), 0);
        DUE.is("MOMENT 15 goes: NIGHT", x.now(0), 1);
        int[] then = {0, 0, 0, 99, 0, 1};
        for (int p = 0; p < 6; p++) {
            DUE.is("MOMENT 15 goes: FRESH of " + p, x.of(p, 1), then[p]);
            DUE.is("MOMENT 15 goes: DID of " + p, x.of(p, 3), 0);
        }
        // the claque clapped in 15, for which it was noted, but has done nothing in the new night
        NotedHouse y = Due.houseOf(Due.CLAQUE);
        y.moments(15);
        int note = y.of(0, 2);
        y.moments(1);
        DUE.is("it was noted", y.of(0, 2), note - 4);
        DUE.is("DID of the claque", y.of(0, 3), 0);
        DUE.is("nobody: behind the last moment", new NotedHouse().moments(16), 0);
    }

    private static void houseIsNotHeld() {
        NotedHouse x = new NotedHouse();
        DUE.is("nobody: now(4)", x.now(4), 10000);
        DUE.is("nobody: house(0)", x.house(0), 0);
        for (int p = 0; p < 8; p++) {
            x.person(0);
            x.set(p, 2, 9999);
            DUE.is("all at the most: now(4)", x.now(4), 10000 + 9999 * (p + 1));
            DUE.is("all at the most: house(0)", x.house(0), 9999 * (p + 1));
        }
        for (int p = 0; p < 8; p++) {
            x.set(p, 2, -9999);
        }
        DUE.is("all at the least: now(4)", x.now(4), 10000 - 79992);
        DUE.is("all at the least: house(0)", x.house(0), -79992);
        DUE.is("status(-1)", x.status(-1), 0);
    }

    private static void onChangesNothing() {
        NotedHouse x = Refused.small();
        NotedHouse y = Refused.small();
        x.note(0, 400);
        x.on(1, 400, 0);
        x.house(400);
        x.heard(400, 4);
        x.does(2, 4);
        x.comes(0, 500);
        x.place(1, 100);
        x.kind(0, 100);
        x.fresh(0, 100, 50);
        x.cue(60);
        x.doze(100);
        x.tense(100, 50);
        x.best(400);
        x.read(0, 2);
        for (int what = 0; what < 7; what++) {
            DUE.is("now(" + what + ")", x.now(what), y.now(what));
        }
        for (int p = 0; p < 3; p++) {
            for (int what = 0; what < 6; what++) {
                DUE.is("of(" + p + ", " + what + ")", x.of(p, what), y.of(p, what));
            }
        }
        for (int moment = 0; moment < 16; moment++) {
            DUE.is("CUE of " + moment, x.play(moment, 0, 0), y.play(moment, 0, 0));
            DUE.is("TENSE of " + moment, x.play(moment, 1, 0), y.play(moment, 1, 0));
        }
        DUE.is("undo()", x.undo(), y.undo());
        DUE.is("undone: now(4)", x.now(4), y.now(4));
        DUE.is("evening()", x.evening(), y.evening());
    }
}
