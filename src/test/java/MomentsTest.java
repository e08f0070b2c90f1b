/** Promises 11 to 17: moments, note, on, house, heard, does, comes. */
public final class MomentsTest {
    private static final Due DUE = new Due();

    public static void main(String[] args) {
        aNightGoes();
        allAreFoundOutFirst();
        notesAreHeld();
        freshIsHeld();
        momentsBeyond();
        aSitterFarOn();
        onChangesNothing();
        houseOn();
        heardOn();
        doesFirst();
        comesFirst();
        DUE.end();
    }

    private static void aNightGoes() {
        NotedHouse x = Due.houseOf(0, 1, 2, 3, 4, 5);
        for (int p = 0; p < 6; p++) {
            x.set(p, 1, 50);
        }
        DUE.is("moments(15)", x.moments(15), 15);
        DUE.is("moments(15): NIGHT", x.now(0), 0);
        DUE.is("moments(15): FRESH", x.count(3), 300);
        DUE.is("moments(15): DID of the last but one", x.of(0, 3), 4);
        DUE.is("moments(1)", x.moments(1), 0);
        DUE.is("NIGHT", x.now(0), 1);
        int[] fresh = {46, 47, 42, 55, 50, 45};
        for (int p = 0; p < 6; p++) {
            DUE.is("FRESH of " + p, x.of(p, 1), fresh[p]);
            DUE.is("DID of " + p, x.of(p, 3), 0);
        }
        DUE.is("moments(200)", x.moments(200), 8);
        DUE.is("NIGHT then", x.now(0), 13);
        DUE.is("moments(7)", x.moments(7), 15);
        DUE.is("moments(17)", x.moments(17), 0);
        DUE.is("NIGHT at last", x.now(0), 15);
    }

    private static void allAreFoundOutFirst() {
        // a cough goes one seat a moment: the second cougher has not heard the first yet
        NotedHouse x = Due.houseOf(0, 1, 1, 1);
        Due.playAll(x, 0, 0);
        x.set(0, 3, 3);
        int[][] did = {{0, 3, 0, 0}, {0, 0, 3, 0}, {0, 3, 0, 3}, {0, 0, 3, 0}};
        for (int n = 0; n < did.length; n++) {
            x.moments(1);
            for (int p = 0; p < 4; p++) {
                DUE.is("cough after " + (n + 1) + ": DID of " + p, x.of(p, 3), did[n][p]);
            }
        }
        int[] note = {12, -2 + 3 - 2 + 3, 3 - 2 + 3 - 2, 3 + 3 - 2 + 3};
        for (int p = 0; p < 4; p++) {
            DUE.is("cough: NOTE of " + p, x.of(p, 2), 10000 + note[p]);
        }
    }

    private static void notesAreHeld() {
        NotedHouse x = Due.houseOf(0, 3);
        Due.playAll(x, 1, 0);
        x.set(0, 2, 9997);
        x.set(1, 2, -9997);
        DUE.is("note(0, 1)", x.note(0, 1), 9999);
        DUE.is("note(1, 1)", x.note(1, 1), -9999);
        x.moments(3);
        DUE.is("held above", x.of(0, 2), 19999);
        DUE.is("held below", x.of(1, 2), 1);
        x.set(0, 2, 9996);
        x.set(1, 2, -9996);
        x.moments(1);
        DUE.is("just there above", x.of(0, 2), 19999);
        DUE.is("just there below", x.of(1, 2), 1);
        x.play(4, 0, 0);
        x.moments(1);
        DUE.is("down no more than it scores", x.of(1, 2), 2);
    }

    private static void freshIsHeld() {
        NotedHouse x = Due.houseOf(0, 2, 3, 5);
        x.set(0, 1, 4);
        x.set(1, 1, 7);
        x.set(2, 1, 95);
        x.set(3, 1, 5);
        x.moments(16);
        DUE.is("4 less 4", x.of(0, 1), 0);
        DUE.is("7 less 8", x.of(1, 1), 0);
        DUE.is("95 and 5", x.of(2, 1), 99);
        DUE.is("5 less 5", x.of(3, 1), 0);
        x.set(2, 1, 94);
        x.moments(16);
        DUE.is("94 and 5", x.of(2, 1), 99);
        DUE.is("0 stays", x.of(0, 1), 0);
        x.set(2, 1, 93);
        x.moments(16);
        DUE.is("93 and 5", x.of(2, 1), 98);
    }

    private static void momentsBeyond() {
        NotedHouse x = Due.houseOf(0);
        int[] bad = {0, -1, 201, Integer.MIN_VALUE, Integer.MAX_VALUE};
        for (int n : bad) {
            DUE.is("moments(" + n + ")", x.moments(n), Due.BEYOND);
        }
        DUE.is("moments beyond: now(1)", x.now(1), 0);
        DUE.is("moments beyond: now(4)", x.now(4), 10000);
        DUE.is("moments beyond: status(0)", x.status(0), bad.length);
    }

    /**
     * A sitter of 60 does as asked for 14 nights (60, 56, .. 8), 3 each; then (4, 0, 0, ..)
     * it is still, which is asked in moments 0, 5, 10 and 15: 4 times 3 less 12, night for night.
     */
    private static void aSitterFarOn() {
        NotedHouse x = Due.houseOf(0);
        DUE.is("note(0, 0)", x.note(0, 0), 0);
        DUE.is("note(0, 1)", x.note(0, 1), 3);
        DUE.is("note(0, 224)", x.note(0, 224), 672);
        DUE.is("note(0, 225)", x.note(0, 225), 675);
        DUE.is("note(0, 229)", x.note(0, 229), 671);
        DUE.is("note(0, 399)", x.note(0, 399), 669);
        DUE.is("note(0, 400)", x.note(0, 400), 672);
        DUE.is("on(0, 0, 0)", x.on(0, 0, 0), 60);
        DUE.is("on(0, 15, 0)", x.on(0, 15, 0), 60);
        DUE.is("on(0, 16, 0)", x.on(0, 16, 0), 56);
        DUE.is("on(0, 224, 0)", x.on(0, 224, 0), 4);
        DUE.is("on(0, 400, 0)", x.on(0, 400, 0), 0);
        DUE.is("on(0, 0, 1)", x.on(0, 0, 1), 0);
        DUE.is("on(0, 5, 1)", x.on(0, 5, 1), 4);
        DUE.is("on(0, 16, 1)", x.on(0, 16, 1), 0);
        DUE.is("on(0, 15, 1)", x.on(0, 15, 1), 4);
        DUE.is("on(0, 231, 1)", x.on(0, 231, 1), 0);
        int[][] bad = {{1, 0}, {-1, 0}, {0, -1}, {0, 401}, {Integer.MAX_VALUE, 0}, {0, Integer.MIN_VALUE}};
        for (int[] b : bad) {
            DUE.is("note(" + b[0] + ", " + b[1] + ")", x.note(b[0], b[1]), Due.BEYOND);
            DUE.is("on(" + b[0] + ", " + b[1] + ", 0)", x.on(b[0], b[1], 0), Due.BEYOND);
        }
        DUE.is("on(0, 0, -1)", x.on(0, 0, -1), Due.BEYOND);
        DUE.is("on(0, 0, 2)", x.on(0, 0, 2), Due.BEYOND);
        DUE.is("far on: status(0)", x.status(0), 2 * bad.length + 2);
    }

    private static void onChangesNothing() {
        NotedHouse x = Due.houseOf(0, 1, 2, 3, 4, 5);
        x.moments(21);
        NotedHouse y = Due.houseOf(0, 1, 2, 3, 4, 5);
        y.moments(21);
        x.note(1, 400);
        x.on(2, 33, 0);
        x.house(77);
        x.heard(13, 2);
        x.does(3, 4);
        x.comes(0, 9999);
        x.place(0, 50);
        x.kind(1, 50);
        x.fresh(2, 50, 9999);
        x.cue(30);
        x.doze(50);
        x.tense(50, 9999);
        x.best(100);
        x.sheet(0, 8, 20);
        x.book(0, 4);
        x.read(0, 4);
        for (int what = 0; what < 7; what++) {
            DUE.is("ON: now(" + what + ")", x.now(what), y.now(what));
        }
        for (int p = 0; p < 6; p++) {
            for (int what = 0; what < 6; what++) {
                DUE.is("ON: of(" + p + ", " + what + ")", x.of(p, what), y.of(p, what));
            }
        }
        for (int moment = 0; moment < 16; moment++) {
            DUE.is("ON: cue of " + moment, x.play(moment, 0, 0), moment % 5);
            DUE.is("ON: tense of " + moment, x.play(moment, 1, 0), 5);
        }
    }

    private static void houseOn() {
        NotedHouse x = Due.houseOf(0, 3);
        DUE.is("house(0)", x.house(0), 0);
        DUE.is("house(1)", x.house(1), 4);
        DUE.is("house(2)", x.house(2), 4 + 3 - 3);
        // the sleeper has 4 moments of stillness a night, 4 less 36, for 25 nights
        DUE.is("house(400)", x.house(400), 672 - 25 * 32);
        x.set(1, 2, -9990);
        DUE.is("the one held, the other not", x.house(100), 300 - 9999);
        DUE.is("house(-1)", x.house(-1), Due.BEYOND);
        DUE.is("house(401)", x.house(401), Due.BEYOND);
        DUE.is("house(least)", x.house(Integer.MIN_VALUE), Due.BEYOND);
        DUE.is("nobody: house(400)", new NotedHouse().house(400), 0);
    }

    private static void heardOn() {
        NotedHouse x = Due.houseOf(0, 1, 2, 3, 4, 5);
        int[] inThis = {4, 2, 0, 0, 0};
        for (int what = 0; what < 5; what++) {
            DUE.is("heard(1, " + what + ")", x.heard(1, what), inThis[what]);
        }
        NotedHouse y = Due.houseOf(4, 4, 0);
        DUE.is("heard(7, 4)", y.heard(7, 4), 0);
        DUE.is("heard(8, 4)", y.heard(8, 4), 2);
        DUE.is("heard(5, 4)", y.heard(5, 4), 3);
        DUE.is("heard(400, 4)", y.heard(400, 4), 2);
        DUE.is("heard(400, 0)", y.heard(400, 0), 1);
        DUE.is("nobody: heard(1, 0)", new NotedHouse().heard(1, 0), 0);
        int[][] bad = {{0, 0}, {401, 0}, {-1, 0}, {1, -1}, {1, 5}, {Integer.MAX_VALUE, 0}, {1, Integer.MIN_VALUE}};
        for (int[] b : bad) {
            DUE.is("heard(" + b[0] + ", " + b[1] + ")", y.heard(b[0], b[1]), Due.BEYOND);
        }
        DUE.is("heard: status(0)", y.status(0), bad.length);
    }

    private static void doesFirst() {
        NotedHouse x = Due.houseOf(0);
        for (int what = 0; what < 5; what++) {
            DUE.is("does(0, " + what + ")", x.does(0, what), what + 1);
        }
        x.moments(3);
        DUE.is("in moment 3: does(0, 3)", x.does(0, 3), 1);
        DUE.is("in moment 3: does(0, 2)", x.does(0, 2), 5);
        // of 99, it is below 5 in the 25th night first, and only moment 15 minds
        NotedHouse y = Due.houseOf(0);
        Due.playAll(y, 1, 0);
        y.set(0, 1, 99);
        y.play(15, 1, 5);
        DUE.is("does(0, 0) in the 400th", y.does(0, 0), 400);
        y.play(15, 1, 3);
        DUE.is("does(0, 0) in none", y.does(0, 0), Due.NONE);
        y.play(0, 1, 3);
        DUE.is("does(0, 0) in the 401st", y.does(0, 0), Due.NONE);
        y.moments(1);
        DUE.is("a moment on", y.does(0, 0), 400);
        DUE.is("does: status(3)", y.status(3), 2);
        int[][] bad = {{1, 0}, {-1, 0}, {0, -1}, {0, 5}, {Integer.MIN_VALUE, 0}, {0, Integer.MAX_VALUE}};
        for (int[] b : bad) {
            DUE.is("does(" + b[0] + ", " + b[1] + ")", y.does(b[0], b[1]), Due.BEYOND);
        }
        DUE.is("does: status(0)", y.status(0), bad.length);
    }

    private static void comesFirst() {
        NotedHouse x = Due.houseOf(0);
        DUE.is("comes(0, -9999)", x.comes(0, -9999), 0);
        DUE.is("comes(0, 0)", x.comes(0, 0), 0);
        DUE.is("comes(0, 1)", x.comes(0, 1), 1);
        DUE.is("comes(0, 3)", x.comes(0, 3), 1);
        DUE.is("comes(0, 4)", x.comes(0, 4), 2);
        DUE.is("comes(0, 672)", x.comes(0, 672), 224);
        DUE.is("comes(0, 675)", x.comes(0, 675), 225);
        DUE.is("comes(0, 676)", x.comes(0, 676), Due.NONE);
        DUE.is("comes(0, 9999)", x.comes(0, 9999), Due.NONE);
        x.play(0, 0, 0);
        Due.playAll(x, 0, 0);
        DUE.is("comes(0, 1200)", x.comes(0, 1200), 400);
        DUE.is("comes(0, 1201)", x.comes(0, 1201), Due.NONE);
        DUE.is("comes: status(3)", x.status(3), 3);
        int[][] bad = {{1, 0}, {-1, 0}, {0, -10000}, {0, 10000}, {Integer.MIN_VALUE, 0}, {0, Integer.MAX_VALUE}};
        for (int[] b : bad) {
            DUE.is("comes(" + b[0] + ", " + b[1] + ")", x.comes(b[0], b[1]), Due.BEYOND);
        }
        DUE.is("comes: status(0)", x.status(0), bad.length);
    }
}
