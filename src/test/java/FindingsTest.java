import java.util.function.ToLongFunction;

/**
 * Every finding of every promise, in the order in which the findings are asked; and that a call
 * which answers one changes nothing but status(): the object is compared with one that was not asked.
 */
public final class FindingsTest {
    private static final Due DUE = new Due();
    private static final int LEAST = Integer.MIN_VALUE;
    private static final int MOST = Integer.MAX_VALUE;

    public static void main(String[] args) {
        playAndPeople();
        moments();
        whatIsBest();
        textAndImages();
        sheets();
        copy();
        DUE.end();
    }

    private static void small(String call, int finding, ToLongFunction<NotedHouse> asked) {
        Refused.is(DUE, Refused::small, call, finding, asked);
    }

    private static void full(String call, int finding, ToLongFunction<NotedHouse> asked) {
        Refused.is(DUE, Refused::full, "full: " + call, finding, asked);
    }

    private static void nobody(String call, int finding, ToLongFunction<NotedHouse> asked) {
        Refused.is(DUE, NotedHouse::new, "nobody: " + call, finding, asked);
    }

    private static void playAndPeople() {
        small("play(-1, 0, 0)", Due.BEYOND, x -> x.play(-1, 0, 0));
        small("play(16, 1, 0)", Due.BEYOND, x -> x.play(16, 1, 0));
        small("play(1, 2, 0)", Due.BEYOND, x -> x.play(1, 2, 0));
        small("play(1, 0, 5)", Due.BEYOND, x -> x.play(1, 0, 5));
        small("play(1, 1, 21)", Due.BEYOND, x -> x.play(1, 1, 21));
        small("play(1, 1, -1)", Due.BEYOND, x -> x.play(1, 1, -1));
        small("now(7)", Due.BEYOND, x -> x.now(7));
        small("now(-1)", Due.BEYOND, x -> x.now(-1));
        small("person(6)", Due.BEYOND, x -> x.person(6));
        small("person(-1)", Due.BEYOND, x -> x.person(-1));
        full("person(0)", Due.FULL, x -> x.person(0));
        full("person(6)", Due.BEYOND, x -> x.person(6));
        small("of(3, 0)", Due.BEYOND, x -> x.of(3, 0));
        small("of(0, 6)", Due.BEYOND, x -> x.of(0, 6));
        small("scores(3, 0, 0)", Due.BEYOND, x -> x.scores(3, 0, 0));
        small("scores(0, 5, 0)", Due.BEYOND, x -> x.scores(0, 5, 0));
        small("scores(0, 0, 5)", Due.BEYOND, x -> x.scores(0, 0, 5));
        small("set(3, 1, 0)", Due.BEYOND, x -> x.set(3, 1, 0));
        small("set(0, 0, 0)", Due.BEYOND, x -> x.set(0, 0, 0));
        small("set(0, 1, 100)", Due.BEYOND, x -> x.set(0, 1, 100));
        small("set(0, 2, 10000)", Due.BEYOND, x -> x.set(0, 2, 10000));
        small("set(0, 3, 5)", Due.BEYOND, x -> x.set(0, 3, 5));
        small("turn(3, 0)", Due.BEYOND, x -> x.turn(3, 0));
        small("turn(0, 6)", Due.BEYOND, x -> x.turn(0, 6));
        small("as(3, 0)", Due.BEYOND, x -> x.as(3, 0));
        small("as(0, 6)", Due.BEYOND, x -> x.as(0, 6));
        small("as(0, 2)", Due.KIND, x -> x.as(0, 2));
        small("swap(0, 3)", Due.BEYOND, x -> x.swap(0, 3));
        small("swap(-1, 0)", Due.BEYOND, x -> x.swap(-1, 0));
        small("swap(1, 1)", Due.BEYOND, x -> x.swap(1, 1));
    }

    private static void moments() {
        small("moments(0)", Due.BEYOND, x -> x.moments(0));
        small("moments(201)", Due.BEYOND, x -> x.moments(201));
        small("note(3, 0)", Due.BEYOND, x -> x.note(3, 0));
        small("note(0, 401)", Due.BEYOND, x -> x.note(0, 401));
        small("on(3, 0, 0)", Due.BEYOND, x -> x.on(3, 0, 0));
        small("on(0, -1, 0)", Due.BEYOND, x -> x.on(0, -1, 0));
        small("on(0, 0, 2)", Due.BEYOND, x -> x.on(0, 0, 2));
        small("house(401)", Due.BEYOND, x -> x.house(401));
        small("house(-1)", Due.BEYOND, x -> x.house(-1));
        small("heard(0, 0)", Due.BEYOND, x -> x.heard(0, 0));
        small("heard(401, 0)", Due.BEYOND, x -> x.heard(401, 0));
        small("heard(1, 5)", Due.BEYOND, x -> x.heard(1, 5));
        small("does(3, 0)", Due.BEYOND, x -> x.does(3, 0));
        small("does(0, 5)", Due.BEYOND, x -> x.does(0, 5));
        full("does(3, 4)", Due.NONE, x -> x.does(3, 4));
        small("comes(3, 0)", Due.BEYOND, x -> x.comes(3, 0));
        small("comes(0, 10000)", Due.BEYOND, x -> x.comes(0, 10000));
        small("comes(0, 9999)", Due.NONE, x -> x.comes(0, 9999));
    }

    private static void whatIsBest() {
        small("place(3, 1)", Due.BEYOND, x -> x.place(3, 1));
        small("place(0, 101)", Due.BEYOND, x -> x.place(0, 101));
        small("kind(3, 1)", Due.BEYOND, x -> x.kind(3, 1));
        small("kind(0, 0)", Due.BEYOND, x -> x.kind(0, 0));
        small("fresh(3, 1, 0)", Due.BEYOND, x -> x.fresh(3, 1, 0));
        small("fresh(0, 101, 0)", Due.BEYOND, x -> x.fresh(0, 101, 0));
        small("fresh(0, 1, 10000)", Due.BEYOND, x -> x.fresh(0, 1, 10000));
        small("fresh(0, 1, 9999)", Due.NONE, x -> x.fresh(0, 1, 9999));
        small("cue(0)", Due.BEYOND, x -> x.cue(0));
        small("cue(61)", Due.BEYOND, x -> x.cue(61));
        small("doze(101)", Due.BEYOND, x -> x.doze(101));
        small("tense(0, 0)", Due.BEYOND, x -> x.tense(0, 0));
        small("tense(1, -10000)", Due.BEYOND, x -> x.tense(1, -10000));
        small("tense(1, 9999)", Due.NONE, x -> x.tense(1, 9999));
        small("best(401)", Due.BEYOND, x -> x.best(401));
        nobody("doze(1)", Due.NONE, x -> x.doze(1));
        nobody("doze(0)", Due.BEYOND, x -> x.doze(0));
        nobody("best(0)", Due.NONE, x -> x.best(0));
        nobody("best(-1)", Due.BEYOND, x -> x.best(-1));
        nobody("tense(1, 1)", Due.NONE, x -> x.tense(1, 1));
        Refused.is(DUE, () -> Due.houseOf(0), "alone: place(0, 1)", Due.NONE, x -> x.place(0, 1));
    }

    private static void textAndImages() {
        small("feed(0, 0)", Due.BEYOND, x -> x.feed(0, 0));
        small("feed(0, 5)", Due.BEYOND, x -> x.feed(0, 5));
        full("feed(0, 3)", Due.FULL, x -> x.feed(0, 3));
        full("feed(0, 5)", Due.BEYOND, x -> x.feed(0, 5));
        full("undo()", Due.NONE, x -> x.undo());
        small("count(4)", Due.BEYOND, x -> x.count(4));
        small("count(-1)", Due.BEYOND, x -> x.count(-1));
        small("status(-2)", Due.BEYOND, x -> x.status(-2));
        small("status(7)", Due.BEYOND, x -> x.status(7));
    }

    private static void sheets() {
        small("sheet(4, 8, 1)", Due.BEYOND, x -> x.sheet(4, 8, 1));
        small("sheet(4, 8, -1)", Due.BEYOND, x -> x.sheet(4, 8, -1));
        small("sheet(0, 32, 1)", Due.BEYOND, x -> x.sheet(0, 32, 1));
        small("sheet(0, 32, -1)", Due.BEYOND, x -> x.sheet(0, 32, -1));
        small("sheet(0, 8, -1)", Due.SIZE, x -> x.sheet(0, 8, -1));
        small("sheet(0, 0, -1)", Due.SIZE, x -> x.sheet(0, 0, -1));
        small("sheet(0, 8, 41)", Due.BEYOND, x -> x.sheet(0, 8, 41));
        small("sheet(0, 0, 41)", Due.BEYOND, x -> x.sheet(0, 0, 41));
        small("write(4, 0, 1)", Due.BEYOND, x -> x.write(4, 0, 1));
        small("write(3, 9, 1)", Due.MISSING, x -> x.write(3, 9, 1));
        small("write(0, 4, 1)", Due.BEYOND, x -> x.write(0, 4, 1));
        small("write(0, -1, 1)", Due.BEYOND, x -> x.write(0, -1, 1));
        small("lays(-1)", Due.BEYOND, x -> x.lays(-1));
        small("lays(3)", Due.MISSING, x -> x.lays(3));
        small("book(4, 0)", Due.BEYOND, x -> x.book(4, 0));
        small("book(3, 9)", Due.MISSING, x -> x.book(3, 9));
        small("book(0, 3)", Due.BEYOND, x -> x.book(0, 3));
        small("read(4, 0)", Due.BEYOND, x -> x.read(4, 0));
        small("read(3, 9)", Due.MISSING, x -> x.read(3, 9));
        small("read(0, -1)", Due.BEYOND, x -> x.read(0, -1));
    }

    private static void copy() {
        small("copy(4, 0, 3, 0, 0)", Due.BEYOND, x -> x.copy(4, 0, 3, 0, 0));
        small("copy(3, 0, -1, 0, 0)", Due.BEYOND, x -> x.copy(3, 0, -1, 0, 0));
        small("copy(3, -1, 0, 0, 0)", Due.MISSING, x -> x.copy(3, -1, 0, 0, 0));
        small("copy(0, 0, 3, 0, -1)", Due.MISSING, x -> x.copy(0, 0, 3, 0, -1));
        small("copy(0, 0, 1, 0, -1)", Due.KIND, x -> x.copy(0, 0, 1, 0, -1));
        small("copy(0, 0, 1, 0, 1)", Due.KIND, x -> x.copy(0, 0, 1, 0, 1));
        small("copy(0, 0, 0, 1, 4)", Due.BEYOND, x -> x.copy(0, 0, 0, 1, 4));
        small("copy(0, 1, 0, 0, 4)", Due.BEYOND, x -> x.copy(0, 1, 0, 0, 4));
        small("copy(0, -1, 0, 0, 1)", Due.BEYOND, x -> x.copy(0, -1, 0, 0, 1));
        small("copy(0, 0, 0, -1, 1)", Due.BEYOND, x -> x.copy(0, 0, 0, -1, 1));
        small("copy(0, 0, 0, 0, -1)", Due.BEYOND, x -> x.copy(0, 0, 0, 0, -1));
        small("copy(0, 2, 0, 0, most)", Due.BEYOND, x -> x.copy(0, 2, 0, 0, MOST));
        small("copy(0, most, 0, 0, 1)", Due.BEYOND, x -> x.copy(0, MOST, 0, 0, 1));
        small("copy(0, 0, 0, most, most)", Due.BEYOND, x -> x.copy(0, 0, 0, MOST, MOST));
        small("copy(0, least, 0, least, least)", Due.BEYOND, x -> x.copy(0, LEAST, 0, LEAST, LEAST));
    }
}
