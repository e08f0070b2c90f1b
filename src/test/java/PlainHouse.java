import java.util.ArrayList;
import java.util.List;
import java.util.regex.Matcher;
import java.util.regex.Pattern;

/**
 * The document once more, written otherwise and without a thought of what it costs: kinds are
 * classes under one another, each question copies the house whole, sheets are rows of Java's own
 * bytes, shorts and longs. ModelTest holds the class against it.
 */
final class PlainHouse {
    /** What stands for a finding inside: it is counted and answered by ask(). */
    static final class Finding extends RuntimeException {
        private static final long serialVersionUID = 1;
        final int code;

        Finding(int code) {
            super(null, null, false, false);
            this.code = code;
        }
    }

    static class Sitter {
        int number() {
            return 0;
        }

        int does(State s, int p, int q) {
            return s.people.get(p).fresh >= s.tense[s.moment] ? q : 0;
        }

        int scores(int d, int q) {
            return d == q ? 3 : d == 0 ? -1 : -2;
        }

        int stales() {
            return 4;
        }
    }

    static class Cougher extends Sitter {
        @Override
        int number() {
            return 1;
        }

        @Override
        int does(State s, int p, int q) {
            return s.besideOneWhoDid(p, 3) ? 3 : super.does(s, p, q);
        }

        @Override
        int scores(int d, int q) {
            return d == 3 && q == 3 ? 5 : super.scores(d, q);
        }

        @Override
        int stales() {
            return super.stales() - 1;
        }
    }

    static class Weeper extends Sitter {
        @Override
        int number() {
            return 2;
        }

        @Override
        int does(State s, int p, int q) {
            return s.people.get(p).fresh >= 40 && q != 2 ? 1 : super.does(s, p, q);
        }

        @Override
        int scores(int d, int q) {
            return super.scores(d, q) + (d == 1 ? 1 : 0);
        }

        @Override
        int stales() {
            return super.stales() * 2;
        }
    }

    static class Sleeper extends Sitter {
        @Override
        int number() {
            return 3;
        }

        @Override
        int does(State s, int p, int q) {
            return 0;
        }

        @Override
        int scores(int d, int q) {
            return q == 0 ? 1 : -3;
        }

        @Override
        int stales() {
            return -5;
        }
    }

    static class Claque extends Cougher {
        @Override
        int number() {
            return 4;
        }

        @Override
        int does(State s, int p, int q) {
            return q == 4 || s.moment % 8 == 7 ? 4 : super.does(s, p, q);
        }

        @Override
        int scores(int d, int q) {
            return super.scores(d, q) - (d == 4 ? 2 : 0);
        }

        @Override
        int stales() {
            return 0;
        }
    }

    static class Widow extends Weeper {
        @Override
        int number() {
            return 5;
        }

        @Override
        int does(State s, int p, int q) {
            return s.besideOneWhoDid(p, 1) ? 1 : super.does(s, p, q);
        }

        @Override
        int scores(int d, int q) {
            return Math.max(0, super.scores(d, q));
        }

        @Override
        int stales() {
            return super.stales() - 3;
        }
    }

    static final List<Sitter> KINDS =
        List.of(new Sitter(), new Cougher(), new Weeper(), new Sleeper(), new Claque(), new Widow());
    static final List<String> KIND_NAMES = List.of("sitter", "cougher", "weeper", "sleeper", "claque", "widow");
    static final List<String> CUE_NAMES = List.of("still", "sob", "laugh", "cough", "clap");

    static final class Person {
        Sitter kind;
        int fresh = 60;
        int note = 0;
        int did = 0;

        Person(Sitter kind) {
            this.kind = kind;
        }

        Person copied() {
            Person other = new Person(kind);
            other.fresh = fresh;
            other.note = note;
            other.did = did;
            return other;
        }
    }

    static final class State {
        int night = 0;
        int moment = 0;
        int[] cue = {0, 1, 2, 3, 4, 0, 1, 2, 3, 4, 0, 1, 2, 3, 4, 0};
        int[] tense = {5, 5, 5, 5, 5, 5, 5, 5, 5, 5, 5, 5, 5, 5, 5, 5};
        List<Person> people = new ArrayList<>();

        State copied() {
            State other = new State();
            other.night = night;
            other.moment = moment;
            other.cue = cue.clone();
            other.tense = tense.clone();
            for (Person one : people) {
                other.people.add(one.copied());
            }
            return other;
        }

        boolean besideOneWhoDid(int p, int what) {
            boolean before = p - 1 >= 0 && people.get(p - 1).did == what;
            boolean behind = p + 1 <= people.size() - 1 && people.get(p + 1).did == what;
            return before || behind;
        }

        int does(int p) {
            return people.get(p).kind.does(this, p, cue[moment]);
        }

        State on(int n) {
            State then = copied();
            for (int i = 0; i < n; i++) {
                then.go();
            }
            return then;
        }

        void go() {
            List<Integer> deeds = new ArrayList<>();
            for (int p = 0; p < people.size(); p++) {
                deeds.add(does(p));
            }
            for (int p = 0; p < people.size(); p++) {
                Person one = people.get(p);
                one.note = hold(one.note + one.kind.scores(deeds.get(p), cue[moment]), -9999, 9999);
                one.did = deeds.get(p);
            }
            moment = moment + 1;
            if (moment == 16) {
                moment = 0;
                night = night + 1;
                for (Person one : people) {
                    one.fresh = hold(one.fresh - one.kind.stales(), 0, 99);
                    one.did = 0;
                }
            }
        }

        int house() {
            return people.stream().mapToInt(one -> one.note).sum();
        }

        int freshOfAll() {
            return people.stream().mapToInt(one -> one.fresh).sum();
        }

        void swap(int p, int other) {
            Person was = people.get(p);
            people.set(p, people.get(other));
            people.set(other, was);
        }
    }

    static int hold(int v, int least, int most) {
        return v < least ? least : v > most ? most : v;
    }

    private State state = new State();
    private State kept = null;
    private final StringBuilder tape = new StringBuilder();
    private final Object[] sheets = new Object[4];
    private final int[] findings = new int[7];

    /** The answer of a call by its name; a finding is counted. */
    long ask(String call, long... a) {
        try {
            int[] i = new int[a.length];
            for (int k = 0; k < a.length; k++) {
                i[k] = (int) a[k];
            }
            return answer(call, i, a);
        } catch (Finding finding) {
            findings[-1000000001 - finding.code]++;
            return finding.code;
        }
    }

    private static void need(boolean good, int code) {
        if (!good) {
            throw new Finding(code);
        }
    }

    private static void in(int v, int least, int most) {
        need(least <= v && v <= most, Due.BEYOND);
    }

    private Person one(int p) {
        in(p, 0, state.people.size() - 1);
        return state.people.get(p);
    }

    private long answer(String call, int[] a, long[] wide) {
        switch (call) {
            case "play": return play(a[0], a[1], a[2]);
            case "now": return now(a[0]);
            case "person": return person(a[0]);
            case "of": return of(a[0], a[1]);
            case "scores": return scores(a[0], a[1], a[2]);
            case "set": return set(a[0], a[1], a[2]);
            case "turn": return turn(a[0], a[1]);
            case "as": return as(a[0], a[1]);
            case "swap": return swap(a[0], a[1]);
            case "moments": return moments(a[0]);
            case "note": return note(a[0], a[1]);
            case "on": return on(a[0], a[1], a[2]);
            case "house": return house(a[0]);
            case "heard": return heard(a[0], a[1]);
            case "does": return does(a[0], a[1]);
            case "comes": return comes(a[0], a[1]);
            case "place": return place(a[0], a[1]);
            case "kind": return kind(a[0], a[1]);
            case "fresh": return fresh(a[0], a[1], a[2]);
            case "cue": return cue(a[0]);
            case "doze": return doze(a[0]);
            case "tense": return tense(a[0], a[1]);
            case "best": return best(a[0]);
            case "feed": return feed(a[0], a[1]);
            case "wipe": return wipe();
            case "evening": return evening();
            case "sheet": return sheet(a[0], a[1], a[2]);
            case "write": return write(a[0], a[1], wide[2]);
            case "copy": return copy(a[0], a[1], a[2], a[3], a[4]);
            case "lays": return lays(a[0]);
            case "book": return book(a[0], a[1]);
            case "read": return read(a[0], a[1]);
            case "image": kept = state.copied(); return 1;
            case "undo": return undo();
            case "tear": return tear();
            case "count": return count(a[0]);
            case "status": return status(a[0]);
            default: throw new IllegalArgumentException(call);
        }
    }

    private int play(int moment, int what, int v) {
        in(moment, 0, 15);
        in(what, 0, 1);
        in(v, 0, what == 0 ? 4 : 20);
        int[] row = what == 0 ? state.cue : state.tense;
        int was = row[moment];
        row[moment] = v;
        return was;
    }

    private int now(int what) {
        in(what, 0, 6);
        int who = 0;
        for (int p = 0; p < state.people.size(); p++) {
            who += state.does(p) == state.cue[state.moment] ? (int) Math.round(Math.pow(2, p)) : 0;
        }
        return List.of(state.night, state.moment, state.cue[state.moment], state.tense[state.moment],
            10000 + state.house(), who, state.freshOfAll()).get(what);
    }

    private int person(int kind) {
        in(kind, 0, 5);
        need(state.people.size() < 8, Due.FULL);
        state.people.add(new Person(KINDS.get(kind)));
        return state.people.size() - 1;
    }

    private int of(int p, int what) {
        Person one = one(p);
        in(what, 0, 5);
        return List.of(one.kind.number(), one.fresh, 10000 + one.note, one.did, state.does(p),
            100 + one.kind.stales()).get(what);
    }

    private int scores(int p, int d, int q) {
        Person one = one(p);
        in(d, 0, 4);
        in(q, 0, 4);
        return 100 + one.kind.scores(d, q);
    }

    private int set(int p, int what, int v) {
        Person one = one(p);
        in(what, 1, 3);
        int was;
        if (what == 1) {
            in(v, 0, 99);
            was = one.fresh;
            one.fresh = v;
        } else if (what == 2) {
            in(v, -9999, 9999);
            was = one.note;
            one.note = v;
        } else {
            in(v, 0, 4);
            was = one.did;
            one.did = v;
        }
        return was;
    }

    private int turn(int p, int kind) {
        Person one = one(p);
        in(kind, 0, 5);
        int was = one.kind.number();
        one.kind = KINDS.get(kind);
        return was;
    }

    private int as(int p, int kind) {
        Person one = one(p);
        in(kind, 0, 5);
        need(KINDS.get(kind).getClass().isInstance(one.kind), Due.KIND);
        return one.fresh;
    }

    private int swap(int p, int other) {
        one(p);
        one(other);
        need(p != other, Due.BEYOND);
        state.swap(p, other);
        return 1;
    }

    private int moments(int n) {
        in(n, 1, 200);
        State then = state.on(n);
        need(then.night <= 9999, Due.STATE);
        state = then;
        return state.moment;
    }

    private int note(int p, int n) {
        one(p);
        in(n, 0, 400);
        return state.on(n).people.get(p).note;
    }

    private int on(int p, int n, int what) {
        one(p);
        in(n, 0, 400);
        in(what, 0, 1);
        Person then = state.on(n).people.get(p);
        return what == 0 ? then.fresh : then.did;
    }

    private int house(int n) {
        in(n, 0, 400);
        return state.on(n).house();
    }

    private int heard(int n, int what) {
        in(n, 1, 400);
        in(what, 0, 4);
        State then = state.on(n - 1);
        int many = 0;
        for (int p = 0; p < then.people.size(); p++) {
            many += then.does(p) == what ? 1 : 0;
        }
        return many;
    }

    private int does(int p, int what) {
        one(p);
        in(what, 0, 4);
        State then = state.copied();
        for (int n = 1; n <= 400; n++, then.go()) {
            if (then.does(p) == what) {
                return n;
            }
        }
        throw new Finding(Due.NONE);
    }

    private int comes(int p, int v) {
        one(p);
        in(v, -9999, 9999);
        State then = state.copied();
        for (int n = 0; n <= 400; n++, then.go()) {
            if (then.people.get(p).note >= v) {
                return n;
            }
        }
        throw new Finding(Due.NONE);
    }

    private int place(int p, int n) {
        one(p);
        in(n, 1, 100);
        int[] houses = new int[state.people.size()];
        int most = state.on(n).house();
        int asIs = most;
        for (int other = 0; other < houses.length; other++) {
            State then = state.copied();
            then.swap(p, other);
            houses[other] = then.on(n).house();
            most = Math.max(most, houses[other]);
        }
        need(most > asIs, Due.NONE);
        int other = 0;
        while (houses[other] != most) {
            other++;
        }
        return other;
    }

    private int kind(int p, int n) {
        one(p);
        in(n, 1, 100);
        List<Integer> notes = new ArrayList<>();
        for (Sitter kind : KINDS) {
            State then = state.copied();
            then.people.get(p).kind = kind;
            notes.add(then.on(n).people.get(p).note);
        }
        return notes.indexOf(java.util.Collections.max(notes));
    }

    private int fresh(int p, int n, int v) {
        one(p);
        in(n, 1, 100);
        in(v, -9999, 9999);
        for (int fresh = 0; fresh < 100; fresh++) {
            State then = state.copied();
            then.people.get(p).fresh = fresh;
            if (then.on(n).people.get(p).note >= v) {
                return fresh;
            }
        }
        throw new Finding(Due.NONE);
    }

    private int cue(int n) {
        in(n, 1, 60);
        List<Integer> houses = new ArrayList<>();
        for (int q = 0; q < 5; q++) {
            for (int moment = 0; moment < 16; moment++) {
                State then = state.copied();
                then.cue[moment] = q;
                houses.add(then.on(n).house());
            }
        }
        return houses.indexOf(java.util.Collections.max(houses));
    }

    private int doze(int n) {
        in(n, 1, 100);
        need(!state.people.isEmpty(), Due.NONE);
        List<Integer> houses = new ArrayList<>();
        for (int p = 0; p < state.people.size(); p++) {
            State then = state.copied();
            then.people.get(p).kind = KINDS.get(3);
            houses.add(then.on(n).house());
        }
        return houses.indexOf(java.util.Collections.min(houses));
    }

    private int tense(int n, int v) {
        in(n, 1, 100);
        in(v, -9999, 9999);
        int greatest = -1;
        for (int tense = 0; tense <= 20; tense++) {
            State then = state.copied();
            java.util.Arrays.fill(then.tense, tense);
            greatest = then.on(n).house() >= v ? tense : greatest;
        }
        need(greatest >= 0, Due.NONE);
        return greatest;
    }

    private int best(int n) {
        in(n, 0, 400);
        need(!state.people.isEmpty(), Due.NONE);
        List<Integer> notes = new ArrayList<>();
        for (Person one : state.on(n).people) {
            notes.add(one.note);
        }
        return notes.indexOf(java.util.Collections.max(notes));
    }

    private int feed(int bytes, int n) {
        in(n, 1, 4);
        need(tape.length() + n <= 120, Due.FULL);
        String four = "";
        for (int i = 0; i < 4; i++) {
            four = (char) (bytes & 255) + four;
            bytes >>>= 8;
        }
        tape.append(four.substring(4 - n));
        return tape.length();
    }

    private int wipe() {
        int had = tape.length();
        tape.setLength(0);
        return had;
    }

    /** The tokens of the tape, each with its place; the last one is empty and stands at the end. */
    private static List<String> tokens(String text, List<Integer> places) {
        List<String> tokens = new ArrayList<>();
        Matcher m = Pattern.compile("[a-z]+|[0-9]+|[^ ]", Pattern.DOTALL).matcher(text);
        while (m.find()) {
            tokens.add(m.group());
            places.add(m.start());
        }
        tokens.add("");
        places.add(text.length());
        return tokens;
    }

    private int evening() {
        List<Integer> places = new ArrayList<>();
        List<String> tokens = tokens(tape.toString(), places);
        tape.setLength(0);
        State then = state.copied();
        int at = 0;
        int items = 0;
        while (true) {
            int behind = item(then, tokens, at);
            if (behind < 0) {
                return -1 - places.get(-1 - behind);
            }
            items++;
            if (tokens.get(behind).isEmpty()) {
                state = then;
                return items;
            }
            if (!tokens.get(behind).equals(";")) {
                return -1 - places.get(behind);
            }
            at = behind + 1;
        }
    }

    /** The number of the token behind the item, or -1 less that of the one that can't stand there. */
    private static int item(State then, List<String> tokens, int at) {
        String word = tokens.get(at);
        int people = then.people.size();
        if (KIND_NAMES.contains(word)) {
            if (people == 8) {
                return -1 - at;
            }
            Person one = new Person(KINDS.get(KIND_NAMES.indexOf(word)));
            then.people.add(one);
            if (!tokens.get(at + 1).equals("fresh")) {
                return at + 1;
            }
            one.fresh = number(tokens.get(at + 2), 99);
            return one.fresh < 0 ? -1 - (at + 2) : at + 3;
        }
        if (!List.of("cue", "tense", "swap").contains(word)) {
            return -1 - at;
        }
        int first = number(tokens.get(at + 1), word.equals("swap") ? people - 1 : 15);
        if (first < 0) {
            return -1 - (at + 1);
        }
        String last = tokens.get(at + 2);
        int second = word.equals("cue") ? CUE_NAMES.indexOf(last) : number(last, word.equals("swap") ? people - 1 : 20);
        if (second < 0 || word.equals("swap") && first == second) {
            return -1 - (at + 2);
        }
        if (word.equals("cue")) {
            then.cue[first] = second;
        } else if (word.equals("tense")) {
            then.tense[first] = second;
        } else {
            then.swap(first, second);
        }
        return at + 3;
    }

    private static int number(String token, int most) {
        if (!token.matches("[0-9]+")) {
            return -1;
        }
        java.math.BigInteger v = new java.math.BigInteger(token);
        return v.compareTo(java.math.BigInteger.valueOf(most)) > 0 ? -1 : v.intValue();
    }

    private static int bitsOf(Object row) {
        return row instanceof byte[] ? 8 : row instanceof short[] ? 16 : 64;
    }

    private static int sizeOf(Object row) {
        return java.lang.reflect.Array.getLength(row);
    }

    private static long get(Object row, int i) {
        return java.lang.reflect.Array.getLong(row, i);
    }

    private static void put(Object row, int i, long v) {
        if (row instanceof byte[]) {
            ((byte[]) row)[i] = (byte) v;
        } else if (row instanceof short[]) {
            ((short[]) row)[i] = (short) v;
        } else {
            ((long[]) row)[i] = v;
        }
    }

    private Object row(int s) {
        in(s, 0, 3);
        need(sheets[s] != null, Due.MISSING);
        return sheets[s];
    }

    private int sheet(int s, int bits, int n) {
        in(s, 0, 3);
        need(List.of(0, 8, 16, 64).contains(bits), Due.BEYOND);
        need(n >= 0, Due.SIZE);
        need(n <= 40, Due.BEYOND);
        if (bits == 0) {
            sheets[s] = null;
            return 0;
        }
        sheets[s] = bits == 8 ? new byte[n] : bits == 16 ? new short[n] : new long[n];
        return n;
    }

    private long write(int s, int i, long v) {
        Object row = row(s);
        in(i, 0, sizeOf(row) - 1);
        long was = get(row, i);
        put(row, i, v);
        return was;
    }

    private int copy(int s, int from, int t, int to, int n) {
        in(s, 0, 3);
        in(t, 0, 3);
        Object source = row(s);
        Object target = row(t);
        need(bitsOf(source) == bitsOf(target), Due.KIND);
        need(from >= 0 && to >= 0 && n >= 0, Due.BEYOND);
        need((long) from + n <= sizeOf(source) && (long) to + n <= sizeOf(target), Due.BEYOND);
        long[] all = new long[n];
        for (int i = 0; i < n; i++) {
            all[i] = get(source, from + i);
        }
        for (int i = 0; i < n; i++) {
            put(target, to + i, all[i]);
        }
        return n;
    }

    private int lays(int s) {
        Object row = row(s);
        int came = 0;
        for (int p = 0; p < state.people.size(); p++) {
            if (p < sizeOf(row) && get(row, p) >= 0 && get(row, p) < 100) {
                state.people.get(p).fresh = (int) get(row, p);
                came++;
            }
        }
        return came;
    }

    private int book(int s, int p) {
        Object row = row(s);
        one(p);
        for (int i = 0; i < sizeOf(row); i++) {
            put(row, i, state.on(i).does(p));
        }
        return sizeOf(row);
    }

    private int read(int s, int p) {
        Object row = row(s);
        one(p);
        int pairs = 0;
        for (Sitter kind : KINDS) {
            for (int fresh = 0; fresh < 100; fresh++) {
                State then = state.copied();
                then.people.get(p).kind = kind;
                then.people.get(p).fresh = fresh;
                boolean same = true;
                for (int i = 0; same && i < sizeOf(row); i++, then.go()) {
                    same = then.does(p) == get(row, i);
                }
                pairs += same ? 1 : 0;
            }
        }
        return pairs;
    }

    private int undo() {
        need(kept != null, Due.NONE);
        state = kept.copied();
        return state.people.size();
    }

    private int tear() {
        int had = kept == null ? 0 : 1;
        kept = null;
        return had;
    }

    private int count(int what) {
        in(what, 0, 3);
        return List.of(state.people.size(), tape.length(), java.util.Arrays.stream(state.tense).sum(),
            state.freshOfAll()).get(what);
    }

    private int status(int which) {
        in(which, -1, 6);
        return which >= 0 ? findings[which] : java.util.Arrays.stream(findings).sum();
    }
}
