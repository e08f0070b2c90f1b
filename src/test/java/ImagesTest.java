/** Promises 34 to 38: image, undo, tear, count, status. */
public final class ImagesTest {
    private static final Due DUE = new Due();

    public static void main(String[] args) {
        undoBringsAllBack();
        undoStays();
        theLatestCounts();
        whatIsNotKept();
        tears();
        counts();
        statusOfEach();
        DUE.end();
    }

    private static void undoBringsAllBack() {
        NotedHouse x = Due.houseOf(0, 1, 5);
        x.play(4, 0, 3);
        x.play(5, 1, 17);
        x.moments(20);
        x.set(1, 1, 31);
        x.set(1, 2, -31);
        x.set(1, 3, 3);
        int[] now = new int[7];
        for (int what = 0; what < 7; what++) {
            now[what] = x.now(what);
        }
        int[][] of = new int[3][5];
        for (int p = 0; p < 3; p++) {
            for (int what = 0; what < 5; what++) {
                of[p][what] = x.of(p, what);
            }
        }
        DUE.is("image()", x.image(), 1);
        x.moments(30);
        x.person(2);
        x.turn(0, 4);
        x.swap(1, 2);
        x.play(4, 0, 1);
        x.play(5, 1, 0);
        DUE.is("undo()", x.undo(), 3);
        for (int what = 0; what < 7; what++) {
            DUE.is("undone: now(" + what + ")", x.now(what), now[what]);
        }
        for (int p = 0; p < 3; p++) {
            for (int what = 0; what < 5; what++) {
                DUE.is("undone: of(" + p + ", " + what + ")", x.of(p, what), of[p][what]);
            }
        }
        DUE.is("undone: of(3, 0)", x.of(3, 0), Due.BEYOND);
        for (int moment = 0; moment < 16; moment++) {
            DUE.is("undone: cue of " + moment, x.play(moment, 0, 0), moment == 4 ? 3 : moment % 5);
            DUE.is("undone: tense of " + moment, x.play(moment, 1, 0), moment == 5 ? 17 : 5);
        }
    }

    private static void undoStays() {
        NotedHouse x = Due.houseOf(0);
        x.image();
        for (int i = 0; i < 3; i++) {
            x.set(0, 1, i);
            x.person(1);
            x.play(0, 1, i);
            DUE.is("undo() " + i, x.undo(), 1);
            DUE.is("FRESH " + i, x.of(0, 1), 60);
            DUE.is("tense " + i, x.now(3), 5);
        }
        NotedHouse y = new NotedHouse();
        y.image();
        y.person(0);
        DUE.is("nobody is kept: undo()", y.undo(), 0);
        DUE.is("nobody is kept: count(0)", y.count(0), 0);
    }

    private static void theLatestCounts() {
        NotedHouse x = Due.houseOf(0);
        x.image();
        x.person(1);
        x.image();
        x.person(2);
        DUE.is("undo()", x.undo(), 2);
        DUE.is("undo() again", x.undo(), 2);
        DUE.is("tear()", x.tear(), 1);
        DUE.is("nothing is kept: undo()", x.undo(), Due.NONE);
    }

    private static void whatIsNotKept() {
        NotedHouse x = Due.houseOf(0);
        x.sheet(0, 8, 2);
        x.write(0, 0, 5);
        Due.feed(x, "wid");
        x.image();
        x.write(0, 0, 6);
        x.sheet(1, 16, 1);
        Due.feed(x, "ow");
        x.now(99);
        x.undo();
        DUE.is("the tape is left", x.count(1), 5);
        DUE.is("a sheet is left", x.write(0, 0, 0), 6);
        DUE.is("another sheet is left", x.write(1, 0, 0), 0);
        DUE.is("findings are left", x.status(-1), 1);
        DUE.is("evening()", x.evening(), 1);
        DUE.is("evening(): of(1, 0)", x.of(1, 0), Due.WIDOW);
        x.undo();
        DUE.is("the tape doesn't come back", x.count(1), 0);
        DUE.is("the widow goes", x.count(0), 1);
    }

    private static void tears() {
        NotedHouse x = Due.houseOf(0);
        DUE.is("tear() of nothing", x.tear(), 0);
        x.image();
        x.image();
        DUE.is("tear()", x.tear(), 1);
        DUE.is("tear() again", x.tear(), 0);
        DUE.is("undo()", x.undo(), Due.NONE);
        DUE.is("what there is, is left", x.count(0), 1);
        DUE.is("status(3)", x.status(3), 1);
        x.image();
        DUE.is("kept anew: undo()", x.undo(), 1);
    }

    private static void counts() {
        NotedHouse x = Due.houseOf(0, 3);
        x.set(0, 1, 99);
        x.set(1, 1, 0);
        DUE.is("count(0)", x.count(0), 2);
        DUE.is("count(3)", x.count(3), 99);
        x.person(1);
        DUE.is("count(3) of three", x.count(3), 159);
        Due.feed(x, "abcde");
        DUE.is("count(1)", x.count(1), 5);
        Due.playAll(x, 0, 20);
        DUE.is("count(2)", x.count(2), 320);
        x.play(15, 1, 0);
        x.play(0, 1, 1);
        DUE.is("count(2) then", x.count(2), 281);
        for (int what : new int[] {-1, 4, Integer.MIN_VALUE, Integer.MAX_VALUE}) {
            DUE.is("count(" + what + ")", x.count(what), Due.BEYOND);
        }
        DUE.is("status(0)", x.status(0), 4);
    }

    private static void statusOfEach() {
        NotedHouse x = Due.houseOf(0, 0, 0, 0, 0, 0, 0, 0);
        x.person(9);
        x.person(0);
        x.person(0);
        x.as(0, 1);
        x.undo();
        x.does(0, 0);
        x.lays(0);
        x.sheet(0, 8, -1);
        x.sheet(0, 8, -1);
        x.sheet(0, 8, -1);
        Due.told(x, "foo");
        int[] want = {1, 2, 1, 1, 0, 1, 3};
        int all = 0;
        for (int which = 0; which < 7; which++) {
            DUE.is("status(" + which + ")", x.status(which), want[which]);
            all += want[which];
        }
        DUE.is("status(-1)", x.status(-1), all);
        DUE.is("status(-2)", x.status(-2), Due.BEYOND);
        DUE.is("it is counted", x.status(0), 2);
        DUE.is("status(7)", x.status(7), Due.BEYOND);
        DUE.is("status(least)", x.status(Integer.MIN_VALUE), Due.BEYOND);
        DUE.is("status(most)", x.status(Integer.MAX_VALUE), Due.BEYOND);
        DUE.is("they are counted", x.status(0), 5);
        DUE.is("and in all", x.status(-1), all + 4);
        x.image();
        x.status(99);
        x.undo();
        DUE.is("undo() takes none back", x.status(0), 6);
        DUE.is("nor in all", x.status(-1), all + 5);
    }
}
