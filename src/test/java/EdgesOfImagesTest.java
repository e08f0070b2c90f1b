import java.util.List;

/** The edges that promises 34 to 38 name: image, undo, tear, count, status. */
public final class EdgesOfImagesTest {
    private static final Due DUE = new Due();

    public static void main(String[] args) {
        sentences().run(DUE);
    }

    static Edges sentences() {
        return new Edges()
            .says("Promise 34", "All that section 1 tells (THE TAPE not) is kept: 1.", EdgesOfImagesTest::allIsKept)
            .says("Promise 35", "It becomes what was kept latest (which stays): how many PEOPLE.",
                EdgesOfImagesTest::theLatestStays)
            .says("Promise 35", "NONE: nothing is kept.", EdgesOfImagesTest::nothingIsKept)
            .says("Promise 36", "Nothing is kept: 1 if something was, else 0.", EdgesOfImagesTest::tears)
            .says("Promise 37", "0 PEOPLE, 1 bytes of THE TAPE, 2 TENSE of all MOMENTS together, 3 FRESH of all together.",
                EdgesOfImagesTest::counts)
            .says("Promise 37", "BEYOND: another what.", EdgesOfImagesTest::countBeyond)
            .says("Promise 38", "How many acts answered a finding ever (undo() takes none back): which -1: all, 0 to 6: "
                + "BEYOND to SIZE.", EdgesOfImagesTest::statusCounts)
            .says("Promise 38", "BEYOND (counted from then on): another one.", EdgesOfImagesTest::statusBeyond);
    }

    private static void allIsKept() {
        NotedHouse x = Refused.full();
        DUE.is("image()", x.image(), 1);
        DUE.is("image() again", x.image(), 1);
        x.moments(200);
        Due.playAll(x, 3, 13);
        for (int p = 0; p < 8; p++) {
            x.set(p, 1, 1);
            x.set(p, 2, 2);
            x.set(p, 3, 3);
            x.turn(p, 3);
        }
        x.swap(0, 7);
        DUE.is("undo()", x.undo(), 8);
        x.tear();
        // 'full' itself keeps nothing: so all but status() is as it was
        List<Long> want = Refused.seen(Refused.full());
        DUE.holds("all is as it was", Refused.seen(x).equals(want));
        theRestIsNot();
    }

    /** THE TAPE, the sheets and the findings are no part of section 1's image. */
    private static void theRestIsNot() {
        NotedHouse x = new NotedHouse();
        Due.feed(x, "widow");
        x.sheet(0, 8, 1);
        x.write(0, 0, 5);
        x.image();
        Due.feed(x, ";claque");
        x.write(0, 0, 6);
        x.sheet(1, 64, 40);
        x.now(7);
        DUE.is("undo() to nobody", x.undo(), 0);
        DUE.is("bytes", x.count(1), 12);
        DUE.is("number 0", x.write(0, 0, 0), 6);
        DUE.is("a sheet", x.write(1, 39, 0), 0);
        DUE.is("status(0)", x.status(0), 1);
        DUE.is("the text", x.evening(), 2);
        DUE.is("undo() then", x.undo(), 0);
        DUE.is("the tape stays empty", x.count(1), 0);
    }

    private static void theLatestStays() {
        NotedHouse x = new NotedHouse();
        x.image();
        for (int n = 1; n <= 8; n++) {
            x.person(0);
            DUE.is("undo() to none", x.undo(), 0);
            DUE.is("count(0)", x.count(0), 0);
        }
        for (int n = 1; n <= 8; n++) {
            x.person(0);
            x.image();
        }
        x.set(7, 2, 5);
        DUE.is("undo() to eight", x.undo(), 8);
        DUE.is("undo() again", x.undo(), 8);
        DUE.is("NOTE of the last", x.of(7, 2), 10000);
        x.turn(7, 5);
        DUE.is("and again", x.undo(), 8);
        DUE.is("KIND of the last", x.of(7, 0), 0);
        x.set(0, 1, 7);
        x.image();
        x.set(0, 1, 8);
        x.undo();
        DUE.is("the latest, not the first", x.of(0, 1), 7);
        // an image is no part of what it keeps: what is done behind undo() leaves it as it is
        x.undo();
        x.set(0, 1, 9);
        x.moments(20);
        x.undo();
        DUE.is("FRESH is that of the image", x.of(0, 1), 7);
        DUE.is("NIGHT is that of the image", x.now(0), 0);
        DUE.is("MOMENT is that of the image", x.now(1), 0);
    }

    private static NotedHouse torn() {
        NotedHouse x = Refused.small();
        x.tear();
        return x;
    }

    private static void nothingIsKept() {
        Refused.is(DUE, NotedHouse::new, "new: undo()", Due.NONE, NotedHouse::undo);
        Refused.is(DUE, EdgesOfImagesTest::torn, "torn: undo()", Due.NONE, NotedHouse::undo);
        Refused.is(DUE, Refused::full, "full: undo()", Due.NONE, NotedHouse::undo);
        NotedHouse x = torn();
        x.undo();
        x.image();
        DUE.is("kept anew: undo()", x.undo(), 3);
    }

    private static void tears() {
        NotedHouse x = new NotedHouse();
        DUE.is("new: tear()", x.tear(), 0);
        x.image();
        DUE.is("tear()", x.tear(), 1);
        DUE.is("tear() again", x.tear(), 0);
        x.image();
        x.image();
        x.undo();
        DUE.is("two were kept: tear()", x.tear(), 1);
        DUE.is("and neither is: tear()", x.tear(), 0);
        DUE.is("nor can come: undo()", x.undo(), Due.NONE);
        DUE.is("0 is no finding", x.status(-1), 1);
        NotedHouse y = torn();
        NotedHouse z = Refused.small();
        DUE.is("what there is, is left: count(0)", y.count(0), z.count(0));
        DUE.is("what there is, is left: now(4)", y.now(4), z.now(4));
        DUE.is("what there is, is left: count(1)", y.count(1), z.count(1));
    }

    private static void counts() {
        NotedHouse x = new NotedHouse();
        int[] atFirst = {0, 0, 80, 0};
        for (int what = 0; what < 4; what++) {
            DUE.is("new: count(" + what + ")", x.count(what), atFirst[what]);
        }
        Due.playAll(x, 0, 20);
        Due.feed(x, " ".repeat(120));
        for (int p = 0; p < 8; p++) {
            x.person(0);
            x.set(p, 1, 99);
        }
        int[] most = {8, 120, 320, 792};
        for (int what = 0; what < 4; what++) {
            DUE.is("at the most: count(" + what + ")", x.count(what), most[what]);
        }
        Due.playAll(x, 0, 0);
        x.wipe();
        for (int p = 0; p < 8; p++) {
            x.set(p, 1, 0);
        }
        int[] least = {8, 0, 0, 0};
        for (int what = 0; what < 4; what++) {
            DUE.is("at the least: count(" + what + ")", x.count(what), least[what]);
        }
        x.play(0, 1, 1);
        x.play(15, 1, 2);
        x.set(0, 1, 3);
        x.set(7, 1, 4);
        DUE.is("the first and the last: count(2)", x.count(2), 3);
        DUE.is("the first and the last: count(3)", x.count(3), 7);
    }

    private static void countBeyond() {
        Refused.outside(DUE, NotedHouse::new, "new: count(%d)", 0, 3, NotedHouse::count);
        Refused.outside(DUE, Refused::small, "count(%d)", 0, 3, NotedHouse::count);
    }

    private static void statusIs(String when, NotedHouse x, int... want) {
        int all = 0;
        for (int which = 0; which < 7; which++) {
            DUE.is(when + ": status(" + which + ")", x.status(which), which < want.length ? want[which] : 0);
            all += which < want.length ? want[which] : 0;
        }
        DUE.is(when + ": status(-1)", x.status(-1), all);
    }

    private static void statusCounts() {
        NotedHouse x = Due.houseOf(0, 0, 0, 0, 0, 0, 0, 0);
        statusIs("none", x);
        x.now(7);
        statusIs("BEYOND", x, 1);
        x.person(0);
        statusIs("FULL", x, 1, 1);
        x.as(0, 1);
        statusIs("KIND", x, 1, 1, 1);
        x.undo();
        statusIs("NONE", x, 1, 1, 1, 1);
        x.write(0, 0, 0);
        statusIs("MISSING", x, 1, 1, 1, 1, 0, 1);
        x.sheet(0, 0, -1);
        statusIs("SIZE", x, 1, 1, 1, 1, 0, 1, 1);
        // a fault and a 0 of tear() are none, and asking for status() is none either
        Due.told(x, "foo");
        x.tear();
        statusIs("no finding", x, 1, 1, 1, 1, 0, 1, 1);
        x.image();
        x.now(-1);
        x.person(0);
        x.undo();
        x.tear();
        statusIs("undo() takes none back", x, 2, 2, 1, 1, 0, 1, 1);
        for (int i = 0; i < 300; i++) {
            x.now(7);
        }
        statusIs("three hundred more", x, 302, 2, 1, 1, 0, 1, 1);
    }

    private static void statusBeyond() {
        Refused.outside(DUE, NotedHouse::new, "new: status(%d)", -1, 6, NotedHouse::status);
        Refused.outside(DUE, Refused::small, "status(%d)", -1, 6, NotedHouse::status);
        NotedHouse x = new NotedHouse();
        DUE.is("status(-2)", x.status(-2), Due.BEYOND);
        DUE.is("it is counted: status(0)", x.status(0), 1);
        DUE.is("status(7)", x.status(7), Due.BEYOND);
        DUE.is("it is counted: status(-1)", x.status(-1), 2);
    }
}
