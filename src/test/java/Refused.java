import java.util.ArrayList;
import java.util.List;
import java.util.function.Supplier;
import java.util.function.ToLongFunction;

/** Calls that are refused: what they answer, and that they change nothing but status(). */
final class Refused {
    private static final int LEAST = Integer.MIN_VALUE;
    private static final int MOST = Integer.MAX_VALUE;
    private static final int FINDINGS = 7;
    // its lowest 8, 16 and 64 bits are unlike, so that a sheet's bits are seen
    private static final long WIDE = 0x1234567812345678L;

    /** A call with one argument left open. */
    interface With {
        long ask(NotedHouse x, int v);
    }

    private Refused() { }

    /** Three people, a sheet of each kind and a MISSING one, a tape, an image of another state. */
    static NotedHouse small() {
        NotedHouse x = Due.houseOf(Due.COUGHER, Due.WIDOW);
        x.play(2, 0, 4);
        x.set(0, 2, 77);
        x.image();
        x.person(Due.CLAQUE);
        x.play(2, 0, 3);
        x.play(3, 1, 12);
        x.moments(19);
        x.set(1, 1, 33);
        x.sheet(0, 8, 4);
        x.sheet(1, 16, 3);
        x.sheet(2, 64, 2);
        for (int s = 0; s < 3; s++) {
            x.write(s, 0, 10 + s);
            x.write(s, 1, 20 + s);
        }
        Due.feed(x, "sleeper fresh 9;cue 9 laugh");
        return x;
    }

    /** Eight people, sheets of forty numbers, two bytes of room on the tape; no image. */
    static NotedHouse full() {
        NotedHouse x = Due.houseOf(0, 1, 2, 3, 4, 5, 0, 1);
        x.moments(5);
        x.sheet(0, 8, 40);
        x.sheet(3, 64, 40);
        x.book(0, 4);
        x.book(3, 0);
        Due.feed(x, "cue 1 laugh;tense 9 17" + " ".repeat(96));
        return x;
    }

    /** That the call answers the finding, is counted once, and that all else is as if it had not been. */
    static void is(Due due, Supplier<NotedHouse> scene, String call, int finding, ToLongFunction<NotedHouse> asked) {
        NotedHouse x = scene.get();
        int[] before = new int[FINDINGS + 1];
        for (int which = -1; which < FINDINGS; which++) {
            before[which + 1] = x.status(which);
        }
        due.is(call, asked.applyAsLong(x), finding);
        for (int which = -1; which < FINDINGS; which++) {
            boolean counted = which == -1 || which == Due.BEYOND - finding;
            due.is(call + ": status(" + which + ")", x.status(which), before[which + 1] + (counted ? 1 : 0));
        }
        List<Long> asIs = seen(scene.get());
        List<Long> then = seen(x);
        due.holds(call + ": all is left, " + asIs + ", and not " + then, asIs.equals(then));
    }

    /** That an argument may be least and most, and that what lies beside them, or far off, is BEYOND. */
    static void outside(Due due, Supplier<NotedHouse> scene, String call, int least, int most, With asked) {
        for (int v : new int[] {least, most}) {
            if (least <= most) {
                NotedHouse x = scene.get();
                int before = x.status(0);
                long got = asked.ask(x, v);
                due.holds(String.format(call, v) + " may be, but answered " + got,
                    got != Due.BEYOND && x.status(0) == before);
            }
        }
        for (int v : new int[] {least - 1, most + 1, LEAST, MOST}) {
            is(due, scene, String.format(call, v), Due.BEYOND, x -> asked.ask(x, v));
        }
    }

    /** That one may be anybody who is there, in houses of nobody, of three and of eight. */
    static void nobodyElse(Due due, String call, With asked) {
        outside(due, NotedHouse::new, "nobody: " + call, 0, -1, asked);
        outside(due, () -> Due.houseOf(0), "one: " + call, 0, 0, asked);
        outside(due, Refused::small, "three: " + call, 0, 2, asked);
        outside(due, Refused::full, "eight: " + call, 0, 7, asked);
    }

    /** All that can be seen of an object but status(); much of it is used up by that. */
    static List<Long> seen(NotedHouse x) {
        List<Long> all = new ArrayList<>();
        all.add((long) x.count(1));
        seeHouse(x, all);
        for (int s = 0; s < 4; s++) {
            seeSheet(x, s, all);
        }
        all.add((long) x.evening());
        seeHouse(x, all);
        all.add((long) x.undo());
        seeHouse(x, all);
        all.add((long) x.tear());
        return all;
    }

    private static void seeHouse(NotedHouse x, List<Long> all) {
        for (int what = 0; what < 7; what++) {
            all.add((long) x.now(what));
        }
        int people = x.count(0);
        for (int p = 0; p < people; p++) {
            for (int what = 0; what < 5; what++) {
                all.add((long) x.of(p, what));
            }
        }
        for (int moment = 0; moment < 16; moment++) {
            all.add((long) x.play(moment, 0, 0));
            all.add((long) x.play(moment, 1, 0));
        }
    }

    private static void seeSheet(NotedHouse x, int s, List<Long> all) {
        for (int i = 0; i <= 40; i++) {
            long was = x.write(s, i, WIDE);
            all.add(was);
            if (was == Due.BEYOND || was == Due.MISSING) {
                break;
            }
        }
        all.add(x.write(s, 0, 0));
    }
}
