/** Promises 18 to 24: place, kind, fresh, cue, doze, tense, best. */
public final class BestTest {
    private static final Due DUE = new Due();

    public static void main(String[] args) {
        placeBesideACough();
        placeIsLeastOfSeveral();
        placeBeyond();
        kindOfOneMoment();
        kindOfNights();
        freshAtLeast();
        cueOfOneMoment();
        cueOfSeveral();
        dozeLetsItBeLeast();
        tenseAtMost();
        bestOfAll();
        DUE.end();
    }

    private static void placeBesideACough() {
        NotedHouse x = Due.houseOf(Due.COUGHER, 0, 0);
        x.set(1, 3, 3);
        DUE.is("as it is", x.house(1), 4);
        DUE.is("place(0, 1): it hears the cough anywhere", x.place(0, 1), Due.NONE);
        DUE.is("place(1, 1)", x.place(1, 1), 2);
        DUE.is("place(2, 1)", x.place(2, 1), 1);
        x.swap(1, 2);
        DUE.is("all is well", x.house(1), 9);
        for (int p = 0; p < 3; p++) {
            DUE.is("place(" + p + ", 1): none is better", x.place(p, 1), Due.NONE);
        }
        DUE.is("place: status(3)", x.status(3), 4);
    }

    private static void placeIsLeastOfSeveral() {
        NotedHouse x = Due.houseOf(Due.COUGHER, 0, 0, 0);
        x.set(1, 3, 3);
        DUE.is("place(1, 1): 2 and 3 are as good", x.place(1, 1), 2);
        DUE.is("place(0, 1)", x.place(0, 1), 3);
        NotedHouse y = Due.houseOf(0, 0, Due.COUGHER);
        y.set(1, 3, 3);
        DUE.is("the first seat: place(1, 1)", y.place(1, 1), 0);
        DUE.is("alone", Due.houseOf(0).place(0, 100), Due.NONE);
        // the same cough is worth having where one is asked
        x.play(0, 0, 3);
        x.set(0, 1, 0);
        x.set(3, 1, 0);
        DUE.is("a cough that is asked", x.house(1), 5 + 3 + 3 - 1);
        DUE.is("place(0, 1) then", x.place(0, 1), Due.NONE);
        DUE.is("place(1, 1) then", x.place(1, 1), Due.NONE);
    }

    private static void placeBeyond() {
        NotedHouse x = Due.houseOf(0, 1);
        int[][] bad = {{-1, 1}, {2, 1}, {0, 0}, {0, 101}, {0, -1}, {Integer.MAX_VALUE, 1}, {0, Integer.MIN_VALUE}};
        for (int[] b : bad) {
            String in = "(" + b[0] + ", " + b[1] + ")";
            DUE.is("place" + in, x.place(b[0], b[1]), Due.BEYOND);
            DUE.is("kind" + in, x.kind(b[0], b[1]), Due.BEYOND);
            DUE.is("fresh" + in, x.fresh(b[0], b[1], 0), Due.BEYOND);
        }
        DUE.is("fresh(0, 1, -10000)", x.fresh(0, 1, -10000), Due.BEYOND);
        DUE.is("fresh(0, 1, 10000)", x.fresh(0, 1, 10000), Due.BEYOND);
        DUE.is("beyond: status(0)", x.status(0), 3 * bad.length + 2);
    }

    private static void kindOfOneMoment() {
        int[] best = {Due.SITTER, Due.WEEPER, Due.SITTER, Due.COUGHER, Due.SITTER};
        int[] tired = {Due.SITTER, Due.WIDOW, Due.WIDOW, Due.WIDOW, Due.CLAQUE};
        for (int was = 0; was < 6; was++) {
            NotedHouse x = Due.houseOf(was);
            for (int q = 0; q < best.length; q++) {
                x.play(0, 0, q);
                x.set(0, 1, 60);
                DUE.is("asked " + q + ": kind(0, 1)", x.kind(0, 1), best[q]);
                x.set(0, 1, 0);
                DUE.is("asked " + q + ", tired: kind(0, 1)", x.kind(0, 1), tired[q]);
            }
            DUE.is("its kind is left", x.of(0, 0), was);
        }
    }

    private static void kindOfNights() {
        NotedHouse x = Due.houseOf(0);
        Due.playAll(x, 3, 0);
        DUE.is("coughs alone: kind(0, 100)", x.kind(0, 100), Due.COUGHER);
        x.set(0, 2, 9999);
        Due.playAll(x, 0, 0);
        DUE.is("all are held alike: kind(0, 100)", x.kind(0, 100), Due.SITTER);
        x.set(0, 2, -9999);
        Due.playAll(x, 1, 20);
        x.set(0, 1, 0);
        DUE.is("a widow is never less than 0: kind(0, 100)", x.kind(0, 100), Due.SITTER);
        x.set(0, 2, 0);
        DUE.is("a widow is better than that: kind(0, 100)", x.kind(0, 100), Due.WIDOW);
    }

    private static void freshAtLeast() {
        NotedHouse x = Due.houseOf(0);
        x.play(0, 0, 1);
        DUE.is("fresh(0, 1, 3)", x.fresh(0, 1, 3), 5);
        DUE.is("fresh(0, 1, 0)", x.fresh(0, 1, 0), 5);
        DUE.is("fresh(0, 1, -1)", x.fresh(0, 1, -1), 0);
        DUE.is("fresh(0, 1, -9999)", x.fresh(0, 1, -9999), 0);
        DUE.is("fresh(0, 1, 4)", x.fresh(0, 1, 4), Due.NONE);
        DUE.is("fresh: status(3)", x.status(3), 1);
        Due.playAll(x, 1, 20);
        // as fresh as 20 in the 7th night: 20 and 6 times 4
        DUE.is("fresh(0, 100, 300)", x.fresh(0, 100, 300), 44);
        x.play(3, 1, 0);
        DUE.is("fresh(0, 100, 296)", x.fresh(0, 100, 296), 44);
        DUE.is("its FRESH is left", x.of(0, 1), 60);
        NotedHouse y = Due.houseOf(Due.WEEPER);
        Due.playAll(y, 4, 0);
        y.play(0, 1, 20);
        DUE.is("one may be too fresh", y.fresh(0, 1, 3), 20);
        y.set(0, 2, -50);
        DUE.is("fresh(0, 1, -47)", y.fresh(0, 1, -47), 20);
        DUE.is("fresh(0, 1, -46)", y.fresh(0, 1, -46), Due.NONE);
        NotedHouse z = Due.houseOf(0);
        Due.playAll(z, 1, 20);
        z.play(15, 1, 0);
        z.moments(15);
        z.set(0, 2, 0);
        DUE.is("fresh(0, 2, 6): a night between", z.fresh(0, 2, 6), 24);
        z.turn(0, Due.WEEPER);
        z.play(15, 1, 20);
        // seven nights end in 100 moments from 15 on: 20 and 7 times 8
        DUE.is("fresh(0, 100, 400)", z.fresh(0, 100, 400), 76);
    }

    private static void cueOfOneMoment() {
        NotedHouse x = Due.houseOf(0);
        DUE.is("all are alike: cue(1)", x.cue(1), 0);
        x.turn(0, Due.COUGHER);
        DUE.is("a cough: cue(1)", x.cue(1), 48);
        DUE.is("the earlier of the two: cue(2)", x.cue(2), 48);
        x.turn(0, Due.WEEPER);
        DUE.is("a sob: cue(1)", x.cue(1), 16);
        x.turn(0, Due.SLEEPER);
        DUE.is("stillness is asked as it is: cue(1)", x.cue(1), 0);
        DUE.is("stillness in the next one, too: cue(2)", x.cue(2), 1);
        x.moments(5);
        x.turn(0, Due.COUGHER);
        DUE.is("in moment 5: cue(1)", x.cue(1), 53);
        x.set(0, 1, 0);
        DUE.is("in moment 5, tired, it is still as asked: cue(1)", x.cue(1), 0);
        x.play(5, 0, 1);
        DUE.is("tired, and a sob is asked: cue(1)", x.cue(1), 5);
        DUE.is("its cue is left", x.now(2), 1);
        x.turn(0, Due.CLAQUE);
        x.moments(2);
        DUE.is("in moment 7: cue(1)", x.cue(1), 64 + 7);
    }

    private static void cueOfSeveral() {
        NotedHouse x = Due.houseOf(Due.COUGHER);
        x.moments(15);
        x.set(0, 1, 99);
        DUE.is("behind the night moment 0 comes: cue(2)", x.cue(2), 48);
        DUE.is("0 and 15 come twice, 14 once: cue(31)", x.cue(31), 48);
        DUE.is("15 comes twice: cue(17)", x.cue(17), 48 + 15);
        DUE.is("nobody: cue(60)", new NotedHouse().cue(60), 0);
        int[] bad = {0, -1, 61, Integer.MIN_VALUE, Integer.MAX_VALUE};
        for (int n : bad) {
            DUE.is("cue(" + n + ")", x.cue(n), Due.BEYOND);
        }
        DUE.is("cue: status(0)", x.status(0), bad.length);
    }

    private static void dozeLetsItBeLeast() {
        NotedHouse x = Due.houseOf(Due.WIDOW, 0, 0);
        DUE.is("doze(1)", x.doze(1), 1);
        x.play(0, 0, 1);
        DUE.is("a sob is asked: doze(1)", x.doze(1), 0);
        x.turn(1, Due.SLEEPER);
        x.turn(0, Due.SLEEPER);
        DUE.is("two sleep: doze(1)", x.doze(1), 2);
        x.turn(2, Due.SLEEPER);
        DUE.is("all sleep: doze(100)", x.doze(100), 0);
        DUE.is("their kinds are left", x.of(0, 0), Due.SLEEPER);
        NotedHouse y = Due.houseOf(Due.SITTER, Due.WEEPER);
        y.play(0, 0, 1);
        DUE.is("the weeper is missed most: doze(1)", y.doze(1), 1);
        DUE.is("their kinds are left, too", y.of(1, 0), Due.WEEPER);
        for (int p = 0; p < 2; p++) {
            y.set(p, 2, -9999);
        }
        y.play(0, 0, 0);
        y.turn(1, Due.SITTER);
        DUE.is("of the least notes: doze(1)", y.doze(1), 0);
        DUE.is("nobody: doze(1)", new NotedHouse().doze(1), Due.NONE);
        NotedHouse z = new NotedHouse();
        int[] bad = {0, -1, 101, Integer.MIN_VALUE, Integer.MAX_VALUE};
        for (int n : bad) {
            DUE.is("doze(" + n + "), BEYOND first", z.doze(n), Due.BEYOND);
        }
        DUE.is("doze: status(0)", z.status(0), bad.length);
        for (int p = 0; p < 8; p++) {
            z.person(0);
            z.set(p, 2, 9999);
        }
        Due.playAll(z, 0, 0);
        DUE.is("all at the most: doze(1)", z.doze(1), 0);
    }

    private static void tenseAtMost() {
        NotedHouse x = Due.houseOf(0);
        Due.playAll(x, 1, 3);
        x.set(0, 1, 10);
        DUE.is("tense(1, 3)", x.tense(1, 3), 10);
        DUE.is("tense(1, 0)", x.tense(1, 0), 10);
        DUE.is("tense(1, -1)", x.tense(1, -1), 20);
        DUE.is("tense(1, -9999)", x.tense(1, -9999), 20);
        DUE.is("tense(1, 4)", x.tense(1, 4), Due.NONE);
        DUE.is("tense(17, 51)", x.tense(17, 51), 6);
        DUE.is("tense(17, 48)", x.tense(17, 48), 6);
        DUE.is("tense(17, 47)", x.tense(17, 47), 10);
        DUE.is("tense(100, 300)", x.tense(100, 300), 0);
        DUE.is("tense(100, 301)", x.tense(100, 301), Due.NONE);
        DUE.is("count(2) is left", x.count(2), 48);
        DUE.is("tense: status(3)", x.status(3), 2);
        x.set(0, 1, 20);
        DUE.is("just fresh: tense(1, 3)", x.tense(1, 3), 20);
        x.set(0, 1, 19);
        DUE.is("just not: tense(1, 3)", x.tense(1, 3), 19);
        int[][] bad = {{0, 0}, {101, 0}, {-1, 0}, {1, -10000}, {1, 10000}, {Integer.MAX_VALUE, 0},
            {1, Integer.MIN_VALUE}};
        for (int[] b : bad) {
            DUE.is("tense(" + b[0] + ", " + b[1] + ")", x.tense(b[0], b[1]), Due.BEYOND);
        }
        DUE.is("tense: status(0)", x.status(0), bad.length);
    }

    private static void bestOfAll() {
        NotedHouse x = new NotedHouse();
        DUE.is("nobody: best(0)", x.best(0), Due.NONE);
        DUE.is("nobody: best(400)", x.best(400), Due.NONE);
        int[] bad = {-1, 401, Integer.MIN_VALUE, Integer.MAX_VALUE};
        for (int n : bad) {
            DUE.is("nobody: best(" + n + "), BEYOND first", x.best(n), Due.BEYOND);
        }
        x.person(Due.SLEEPER);
        x.person(Due.SITTER);
        x.person(Due.SITTER);
        DUE.is("best(0)", x.best(0), 0);
        DUE.is("best(1)", x.best(1), 1);
        x.set(2, 2, 1);
        DUE.is("best(0) then", x.best(0), 2);
        DUE.is("best(400) then", x.best(400), 2);
        x.set(0, 2, 700);
        // it loses 32 a night, and they gain 48
        DUE.is("best(100)", x.best(100), 0);
        DUE.is("best(400)", x.best(400), 2);
        for (int p = 0; p < 3; p++) {
            x.set(p, 2, -9999);
        }
        DUE.is("all at the least: best(0)", x.best(0), 0);
        DUE.is("best: status(0)", x.status(0), bad.length);
        DUE.is("best: status(3)", x.status(3), 2);
    }
}
