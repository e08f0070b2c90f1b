/**
 * A house that is reviewed: people in seats at the moments of a play, what
 * they do, how they are noted, and what had best be otherwise.
 *
 * Every row is made with the object and used again: no call makes anything.
 */
public final class NotedHouse {
    private static final int BEYOND = -1000000001;
    private static final int FULL = -1000000002;
    private static final int KIND = -1000000003;
    private static final int NONE = -1000000004;
    private static final int STATE = -1000000005;
    private static final int MISSING = -1000000006;
    private static final int SIZE = -1000000007;
    private static final int FINDINGS = 7;

    private static final int SITTER = 0;
    private static final int COUGHER = 1;
    private static final int WEEPER = 2;
    private static final int SLEEPER = 3;
    private static final int CLAQUE = 4;
    private static final int WIDOW = 5;
    private static final int KINDS = 6;
    private static final int[] KIND_ABOVE = {-1, SITTER, SITTER, SITTER, COUGHER, WEEPER};
    private static final int SITTER_STALES = 4;
    private static final int WEEPER_STALES = 2 * SITTER_STALES;
    private static final int WEEPING_FRESH = 40;

    private static final int STILL = 0;
    private static final int SOB = 1;
    private static final int LAUGH = 2;
    private static final int COUGH = 3;
    private static final int CLAP = 4;

    private static final int MOMENTS = 16;
    private static final int LAST_NIGHT = 9999;
    private static final int MOST_PEOPLE = 8;
    private static final int MOST_TENSE = 20;
    private static final int FIRST_TENSE = 5;
    private static final int MOST_FRESH = 99;
    private static final int FIRST_FRESH = 60;
    private static final int MOST_NOTE = 9999;

    private static final int FAR = 400;
    private static final int NEAR = 100;
    private static final int NEAREST = 60;
    private static final int MOST_GO = 200;

    private static final int TAPE_BYTES = 120;
    private static final int SHEETS = 4;
    private static final int SHEET_NUMBERS = 40;

    private final House house = new House();
    private final House trial = new House();
    private final House kept = new House();
    private boolean keeps = false;
    private final Text tape = new Text();
    private final Sheet[] sheets = new Sheet[SHEETS];
    private final int[] found = new int[FINDINGS];

    public NotedHouse() {
        for (int s = 0; s < SHEETS; s++) {
            sheets[s] = new Sheet();
        }
    }

    // ---- the play

    public int play(int moment, int what, int v) {
        if (!isIn(moment, 0, MOMENTS - 1)) {
            return finding(BEYOND);
        }
        if (what == 0 && isIn(v, STILL, CLAP)) {
            int was = house.cues[moment];
            house.cues[moment] = v;
            return was;
        }
        if (what == 1 && isIn(v, 0, MOST_TENSE)) {
            int was = house.tenses[moment];
            house.tenses[moment] = v;
            return was;
        }
        return finding(BEYOND);
    }

    public int now(int what) {
        switch (what) {
            case 0:
                return house.night;
            case 1:
                return house.moment;
            case 2:
                return house.cues[house.moment];
            case 3:
                return house.tenses[house.moment];
            case 4:
                return 10000 + house.allNotes();
            case 5:
                return house.whoDoAsAsked();
            case 6:
                return house.allFresh();
            default:
                return finding(BEYOND);
        }
    }

    // ---- people

    public int person(int kind) {
        if (!isIn(kind, SITTER, KINDS - 1)) {
            return finding(BEYOND);
        }
        if (house.people >= MOST_PEOPLE) {
            return finding(FULL);
        }
        return house.seat(kind, FIRST_FRESH);
    }

    public int of(int person, int what) {
        if (!isThere(person)) {
            return finding(BEYOND);
        }
        switch (what) {
            case 0:
                return house.kinds[person];
            case 1:
                return house.freshes[person];
            case 2:
                return 10000 + house.notes[person];
            case 3:
                return house.dids[person];
            case 4:
                return house.deedOf(person);
            case 5:
                return 100 + staleness(house.kinds[person]);
            default:
                return finding(BEYOND);
        }
    }

    public int scores(int person, int d, int q) {
        if (!isThere(person) || !isIn(d, STILL, CLAP) || !isIn(q, STILL, CLAP)) {
            return finding(BEYOND);
        }
        return 100 + scoreFor(house.kinds[person], d, q);
    }

    public int set(int person, int what, int v) {
        if (!isThere(person)) {
            return finding(BEYOND);
        }
        if (what == 1 && isIn(v, 0, MOST_FRESH)) {
            int was = house.freshes[person];
            house.freshes[person] = v;
            return was;
        }
        if (what == 2 && isIn(v, -MOST_NOTE, MOST_NOTE)) {
            int was = house.notes[person];
            house.notes[person] = v;
            return was;
        }
        if (what == 3 && isIn(v, STILL, CLAP)) {
            int was = house.dids[person];
            house.dids[person] = v;
            return was;
        }
        return finding(BEYOND);
    }

    public int turn(int person, int kind) {
        if (!isThere(person) || !isIn(kind, SITTER, KINDS - 1)) {
            return finding(BEYOND);
        }
        int was = house.kinds[person];
        house.kinds[person] = kind;
        return was;
    }

    public int as(int person, int kind) {
        if (!isThere(person) || !isIn(kind, SITTER, KINDS - 1)) {
            return finding(BEYOND);
        }
        if (!isUnder(house.kinds[person], kind)) {
            return finding(KIND);
        }
        return house.freshes[person];
    }

    public int swap(int person, int other) {
        if (!isThere(person) || !isThere(other) || person == other) {
            return finding(BEYOND);
        }
        house.changeSeats(person, other);
        return 1;
    }

    // ---- moments

    public int moments(int n) {
        if (!isIn(n, 1, MOST_GO)) {
            return finding(BEYOND);
        }
        if (house.night + (house.moment + n) / MOMENTS > LAST_NIGHT) {
            return finding(STATE);
        }
        house.goOn(n);
        return house.moment;
    }

    public int note(int person, int n) {
        if (!isThere(person) || !isIn(n, 0, FAR)) {
            return finding(BEYOND);
        }
        startTrial();
        trial.goOn(n);
        return trial.notes[person];
    }

    public int on(int person, int n, int what) {
        if (!isThere(person) || !isIn(n, 0, FAR) || !isIn(what, 0, 1)) {
            return finding(BEYOND);
        }
        startTrial();
        trial.goOn(n);
        return what == 0 ? trial.freshes[person] : trial.dids[person];
    }

    public int house(int n) {
        if (!isIn(n, 0, FAR)) {
            return finding(BEYOND);
        }
        startTrial();
        return trial.allNotesOn(n);
    }

    public int heard(int n, int what) {
        if (!isIn(n, 1, FAR) || !isIn(what, STILL, CLAP)) {
            return finding(BEYOND);
        }
        startTrial();
        trial.goOn(n - 1);
        return trial.howManyDo(what);
    }

    public int does(int person, int what) {
        if (!isThere(person) || !isIn(what, STILL, CLAP)) {
            return finding(BEYOND);
        }
        startTrial();
        for (int n = 1; n <= FAR; n++) {
            if (trial.deedOf(person) == what) {
                return n;
            }
            trial.go();
        }
        return finding(NONE);
    }

    public int comes(int person, int v) {
        if (!isThere(person) || !isIn(v, -MOST_NOTE, MOST_NOTE)) {
            return finding(BEYOND);
        }
        startTrial();
        for (int n = 0; n <= FAR; n++) {
            if (trial.notes[person] >= v) {
                return n;
            }
            trial.go();
        }
        return finding(NONE);
    }

    // ---- what is best

    public int place(int person, int n) {
        if (!isThere(person) || !isIn(n, 1, NEAR)) {
            return finding(BEYOND);
        }
        startTrial();
        int most = trial.allNotesOn(n);
        int with = -1;
        for (int other = 0; other < house.people; other++) {
            if (other == person) {
                continue;
            }
            startTrial();
            trial.changeSeats(person, other);
            int all = trial.allNotesOn(n);
            if (all > most) {
                most = all;
                with = other;
            }
        }
        return with < 0 ? finding(NONE) : with;
    }

    public int kind(int person, int n) {
        if (!isThere(person) || !isIn(n, 1, NEAR)) {
            return finding(BEYOND);
        }
        int most = -MOST_NOTE - 1;
        int best = SITTER;
        for (int kind = SITTER; kind < KINDS; kind++) {
            startTrial();
            trial.kinds[person] = kind;
            trial.goOn(n);
            if (trial.notes[person] > most) {
                most = trial.notes[person];
                best = kind;
            }
        }
        return best;
    }

    public int fresh(int person, int n, int v) {
        if (!isThere(person) || !isIn(n, 1, NEAR) || !isIn(v, -MOST_NOTE, MOST_NOTE)) {
            return finding(BEYOND);
        }
        for (int fresh = 0; fresh <= MOST_FRESH; fresh++) {
            startTrial();
            trial.freshes[person] = fresh;
            trial.goOn(n);
            if (trial.notes[person] >= v) {
                return fresh;
            }
        }
        return finding(NONE);
    }

    public int cue(int n) {
        if (!isIn(n, 1, NEAREST)) {
            return finding(BEYOND);
        }
        int most = -MOST_PEOPLE * MOST_NOTE - 1;
        int best = 0;
        for (int told = 0; told < (CLAP + 1) * MOMENTS; told++) {
            startTrial();
            trial.cues[told % MOMENTS] = told / MOMENTS;
            int all = trial.allNotesOn(n);
            if (all > most) {
                most = all;
                best = told;
            }
        }
        return best;
    }

    public int doze(int n) {
        if (!isIn(n, 1, NEAR)) {
            return finding(BEYOND);
        }
        int least = MOST_PEOPLE * MOST_NOTE + 1;
        int who = -1;
        for (int person = 0; person < house.people; person++) {
            startTrial();
            trial.kinds[person] = SLEEPER;
            int all = trial.allNotesOn(n);
            if (all < least) {
                least = all;
                who = person;
            }
        }
        return who < 0 ? finding(NONE) : who;
    }

    public int tense(int n, int v) {
        if (!isIn(n, 1, NEAR) || !isIn(v, -MOST_NOTE, MOST_NOTE)) {
            return finding(BEYOND);
        }
        for (int tense = MOST_TENSE; tense >= 0; tense--) {
            startTrial();
            trial.tenseAll(tense);
            if (trial.allNotesOn(n) >= v) {
                return tense;
            }
        }
        return finding(NONE);
    }

    public int best(int n) {
        if (!isIn(n, 0, FAR)) {
            return finding(BEYOND);
        }
        startTrial();
        trial.goOn(n);
        int most = -MOST_NOTE - 1;
        int who = -1;
        for (int person = 0; person < trial.people; person++) {
            if (trial.notes[person] > most) {
                most = trial.notes[person];
                who = person;
            }
        }
        return who < 0 ? finding(NONE) : who;
    }

    // ---- the text

    public int feed(int bytes, int n) {
        if (!isIn(n, 1, 4)) {
            return finding(BEYOND);
        }
        if (tape.length + n > TAPE_BYTES) {
            return finding(FULL);
        }
        for (int i = n - 1; i >= 0; i--) {
            tape.add((byte) (bytes >> (8 * i)));
        }
        return tape.length;
    }

    public int wipe() {
        int had = tape.length;
        tape.length = 0;
        return had;
    }

    public int evening() {
        startTrial();
        int answer = tape.tellTo(trial);
        if (answer >= 0) {
            house.become(trial);
        }
        tape.length = 0;
        return answer;
    }

    // ---- sheets

    public int sheet(int s, int bits, int n) {
        if (!isSheet(s) || (bits != 0 && bits != 8 && bits != 16 && bits != 64)) {
            return finding(BEYOND);
        }
        if (n < 0) {
            return finding(SIZE);
        }
        if (n > SHEET_NUMBERS) {
            return finding(BEYOND);
        }
        sheets[s].layOut(bits, n);
        return sheets[s].size;
    }

    public long write(int s, int i, long v) {
        if (!isSheet(s)) {
            return finding(BEYOND);
        }
        Sheet sheet = sheets[s];
        if (sheet.isMissing()) {
            return finding(MISSING);
        }
        if (!isIn(i, 0, sheet.size - 1)) {
            return finding(BEYOND);
        }
        long was = sheet.row[i];
        sheet.put(i, v);
        return was;
    }

    public int copy(int s, int from, int t, int to, int n) {
        if (!isSheet(s) || !isSheet(t)) {
            return finding(BEYOND);
        }
        Sheet source = sheets[s];
        Sheet target = sheets[t];
        if (source.isMissing() || target.isMissing()) {
            return finding(MISSING);
        }
        if (source.bits != target.bits) {
            return finding(KIND);
        }
        if (!source.has(from, n) || !target.has(to, n)) {
            return finding(BEYOND);
        }
        System.arraycopy(source.row, from, target.row, to, n);
        return n;
    }

    public int lays(int s) {
        if (!isSheet(s)) {
            return finding(BEYOND);
        }
        Sheet sheet = sheets[s];
        if (sheet.isMissing()) {
            return finding(MISSING);
        }
        int came = 0;
        for (int i = 0; i < sheet.size && i < house.people; i++) {
            if (sheet.row[i] >= 0 && sheet.row[i] <= MOST_FRESH) {
                house.freshes[i] = (int) sheet.row[i];
                came++;
            }
        }
        return came;
    }

    public int book(int s, int person) {
        int refusal = refusalOf(s, person);
        if (refusal != 0) {
            return finding(refusal);
        }
        Sheet sheet = sheets[s];
        startTrial();
        for (int i = 0; i < sheet.size; i++) {
            sheet.put(i, trial.deedOf(person));
            trial.go();
        }
        return sheet.size;
    }

    public int read(int s, int person) {
        int refusal = refusalOf(s, person);
        if (refusal != 0) {
            return finding(refusal);
        }
        int pairs = 0;
        for (int kind = SITTER; kind < KINDS; kind++) {
            for (int fresh = 0; fresh <= MOST_FRESH; fresh++) {
                startTrial();
                trial.kinds[person] = kind;
                trial.freshes[person] = fresh;
                if (trialDoesAs(sheets[s], person)) {
                    pairs++;
                }
            }
        }
        return pairs;
    }

    // ---- images

    public int image() {
        kept.become(house);
        keeps = true;
        return 1;
    }

    public int undo() {
        if (!keeps) {
            return finding(NONE);
        }
        house.become(kept);
        return house.people;
    }

    public int tear() {
        int had = keeps ? 1 : 0;
        keeps = false;
        return had;
    }

    public int count(int what) {
        switch (what) {
            case 0:
                return house.people;
            case 1:
                return tape.length;
            case 2:
                return house.allTense();
            case 3:
                return house.allFresh();
            default:
                return finding(BEYOND);
        }
    }

    public int status(int which) {
        if (!isIn(which, -1, FINDINGS - 1)) {
            return finding(BEYOND);
        }
        if (which >= 0) {
            return found[which];
        }
        int all = 0;
        for (int i = 0; i < FINDINGS; i++) {
            all += found[i];
        }
        return all;
    }

    // ---- what the calls share

    private int finding(int which) {
        int i = BEYOND - which;
        if (i >= 0 && i < FINDINGS) {
            found[i]++;
        }
        return which;
    }

    private void startTrial() {
        trial.become(house);
    }

    private boolean isThere(int person) {
        return isIn(person, 0, house.people - 1);
    }

    private static boolean isSheet(int s) {
        return isIn(s, 0, SHEETS - 1);
    }

    /** The finding of a call about a sheet and a person, 0 if there is none. */
    private int refusalOf(int s, int person) {
        if (!isSheet(s)) {
            return BEYOND;
        }
        if (sheets[s].isMissing()) {
            return MISSING;
        }
        return isThere(person) ? 0 : BEYOND;
    }

    private boolean trialDoesAs(Sheet sheet, int person) {
        for (int i = 0; i < sheet.size; i++) {
            if (trial.deedOf(person) != sheet.row[i]) {
                return false;
            }
            trial.go();
        }
        return true;
    }

    private static boolean isIn(int v, int least, int most) {
        return v >= least && v <= most;
    }

    private static int held(int v, int least, int most) {
        return Math.max(least, Math.min(most, v));
    }

    // ---- kinds

    private static boolean isUnder(int kind, int above) {
        int at = kind;
        // no kind has more kinds above it than there are
        for (int i = 0; i < KINDS && at >= 0 && at < KINDS; i++) {
            if (at == above) {
                return true;
            }
            at = KIND_ABOVE[at];
        }
        return false;
    }

    private static int staleness(int kind) {
        switch (kind) {
            case COUGHER:
                return SITTER_STALES - 1;
            case WEEPER:
                return WEEPER_STALES;
            case SLEEPER:
                return -5;
            case CLAQUE:
                return 0;
            case WIDOW:
                return WEEPER_STALES - 3;
            default:
                return SITTER_STALES;
        }
    }

    private static int scoreFor(int kind, int d, int q) {
        switch (kind) {
            case COUGHER:
                return cougherScore(d, q);
            case WEEPER:
                return weeperScore(d, q);
            case SLEEPER:
                return q == STILL ? 1 : -3;
            case CLAQUE:
                return d == CLAP ? cougherScore(d, q) - 2 : cougherScore(d, q);
            case WIDOW:
                return Math.max(0, weeperScore(d, q));
            default:
                return sitterScore(d, q);
        }
    }

    private static int sitterScore(int d, int q) {
        if (d == q) {
            return 3;
        }
        return d == STILL ? -1 : -2;
    }

    private static int cougherScore(int d, int q) {
        return d == COUGH && q == COUGH ? 5 : sitterScore(d, q);
    }

    private static int weeperScore(int d, int q) {
        return d == SOB ? sitterScore(d, q) + 1 : sitterScore(d, q);
    }

    /** All that section 1 of the document tells, but for the tape. */
    private static final class House {
        private int night = 0;
        private int moment = 0;
        private int people = 0;
        private final int[] cues = new int[MOMENTS];
        private final int[] tenses = new int[MOMENTS];
        private final int[] kinds = new int[MOST_PEOPLE];
        private final int[] freshes = new int[MOST_PEOPLE];
        private final int[] notes = new int[MOST_PEOPLE];
        private final int[] dids = new int[MOST_PEOPLE];
        // what each is about to do: found out of all before anyone has done it
        private final int[] deeds = new int[MOST_PEOPLE];

        private House() {
            for (int i = 0; i < MOMENTS; i++) {
                cues[i] = i % (CLAP + 1);
                tenses[i] = FIRST_TENSE;
            }
        }

        private void become(House other) {
            night = other.night;
            moment = other.moment;
            people = other.people;
            System.arraycopy(other.cues, 0, cues, 0, MOMENTS);
            System.arraycopy(other.tenses, 0, tenses, 0, MOMENTS);
            System.arraycopy(other.kinds, 0, kinds, 0, people);
            System.arraycopy(other.freshes, 0, freshes, 0, people);
            System.arraycopy(other.notes, 0, notes, 0, people);
            System.arraycopy(other.dids, 0, dids, 0, people);
        }

        /** One more: the number; the caller has looked that a seat is left. */
        private int seat(int kind, int fresh) {
            int person = people;
            if (person < MOST_PEOPLE) {
                kinds[person] = kind;
                freshes[person] = fresh;
                notes[person] = 0;
                dids[person] = STILL;
                people++;
            }
            return person;
        }

        private void changeSeats(int person, int other) {
            exchange(kinds, person, other);
            exchange(freshes, person, other);
            exchange(notes, person, other);
            exchange(dids, person, other);
        }

        private static void exchange(int[] row, int i, int j) {
            int was = row[i];
            row[i] = row[j];
            row[j] = was;
        }

        private void tenseAll(int tense) {
            for (int i = 0; i < MOMENTS; i++) {
                tenses[i] = tense;
            }
        }

        private int allNotes() {
            return sum(notes, people);
        }

        private int allFresh() {
            return sum(freshes, people);
        }

        private int allTense() {
            return sum(tenses, MOMENTS);
        }

        private static int sum(int[] row, int n) {
            int all = 0;
            for (int i = 0; i < n; i++) {
                all += row[i];
            }
            return all;
        }

        private int whoDoAsAsked() {
            int who = 0;
            for (int p = 0; p < people; p++) {
                if (deedOf(p) == cues[moment]) {
                    who |= 1 << p;
                }
            }
            return who;
        }

        private int howManyDo(int what) {
            int many = 0;
            for (int p = 0; p < people; p++) {
                if (deedOf(p) == what) {
                    many++;
                }
            }
            return many;
        }

        private int deedOf(int p) {
            switch (kinds[p]) {
                case COUGHER:
                    return cougherDeed(p);
                case WEEPER:
                    return weeperDeed(p);
                case SLEEPER:
                    return STILL;
                case CLAQUE:
                    return cues[moment] == CLAP || moment % 8 == 7 ? CLAP : cougherDeed(p);
                case WIDOW:
                    return neighbourDid(p, SOB) ? SOB : weeperDeed(p);
                default:
                    return sitterDeed(p);
            }
        }

        private int sitterDeed(int p) {
            return freshes[p] >= tenses[moment] ? cues[moment] : STILL;
        }

        private int cougherDeed(int p) {
            return neighbourDid(p, COUGH) ? COUGH : sitterDeed(p);
        }

        private int weeperDeed(int p) {
            return freshes[p] >= WEEPING_FRESH && cues[moment] != LAUGH ? SOB : sitterDeed(p);
        }

        private boolean neighbourDid(int p, int what) {
            return (p > 0 && dids[p - 1] == what) || (p + 1 < people && dids[p + 1] == what);
        }

        private int allNotesOn(int n) {
            goOn(n);
            return allNotes();
        }

        private void goOn(int n) {
            for (int i = 0; i < n; i++) {
                go();
            }
        }

        private void go() {
            int q = cues[moment];
            for (int p = 0; p < people; p++) {
                deeds[p] = deedOf(p);
            }
            for (int p = 0; p < people; p++) {
                notes[p] = held(notes[p] + scoreFor(kinds[p], deeds[p], q), -MOST_NOTE, MOST_NOTE);
                dids[p] = deeds[p];
            }
            moment++;
            if (moment >= MOMENTS) {
                endNight();
            }
        }

        private void endNight() {
            moment = 0;
            night++;
            for (int p = 0; p < people; p++) {
                freshes[p] = held(freshes[p] - staleness(kinds[p]), 0, MOST_FRESH);
                dids[p] = STILL;
            }
        }
    }

    /** A row of numbers; they are kept as longs, cut to the sheet's bits, with their sign. */
    private static final class Sheet {
        private final long[] row = new long[SHEET_NUMBERS];
        private int bits = 0;
        private int size = 0;

        private boolean isMissing() {
            return bits == 0;
        }

        private void layOut(int newBits, int n) {
            bits = newBits;
            size = newBits == 0 ? 0 : n;
            for (int i = 0; i < SHEET_NUMBERS; i++) {
                row[i] = 0;
            }
        }

        private void put(int i, long v) {
            row[i] = bits == 8 ? (byte) v : bits == 16 ? (short) v : v;
        }

        /** Whether it has n numbers from one on; asked so that no sum can run over. */
        private boolean has(int from, int n) {
            return from >= 0 && n >= 0 && n <= size - from;
        }
    }

    /** The tape, and the reading of it as the text of an evening, token by token. */
    private static final class Text {
        private static final int END = 0;
        private static final int WORD = 1;
        private static final int NUMBER = 2;
        private static final int SIGN = 3;
        private static final int NO_TOKEN = 4;
        private static final int TOO_MUCH = 1000;

        private final byte[] bytes = new byte[TAPE_BYTES];
        private int length = 0;
        // the token that is looked at: its first byte, the byte behind it, what it is
        private int first = 0;
        private int behind = 0;
        private int token = END;
        private int number = 0;

        private void add(byte b) {
            if (length < TAPE_BYTES) {
                bytes[length] = b;
                length++;
            }
        }

        /** How many items came to the house, or -1 less the place of the fault. */
        private int tellTo(House house) {
            behind = 0;
            // an item takes a byte at least, so there are never more than bytes
            for (int items = 1; items <= TAPE_BYTES; items++) {
                take();
                if (!takeItem(house)) {
                    return -1 - first;
                }
                if (token == END) {
                    return items;
                }
                if (token != SIGN) {
                    return -1 - first;
                }
            }
            return -1 - first;
        }

        /** False if the token that is looked at can't stand there; else it is the one behind the item. */
        private boolean takeItem(House house) {
            if (token != WORD) {
                return false;
            }
            if (isWord("cue")) {
                return takeCue(house);
            }
            if (isWord("tense")) {
                return takeTense(house);
            }
            if (isWord("swap")) {
                return takeSwap(house);
            }
            return takePerson(house);
        }

        private boolean takePerson(House house) {
            int kind = kindNamed();
            if (kind < 0 || house.people >= MOST_PEOPLE) {
                return false;
            }
            int person = house.seat(kind, FIRST_FRESH);
            take();
            if (isWord("fresh")) {
                take();
                if (!isNumberTo(MOST_FRESH)) {
                    return false;
                }
                house.freshes[person] = number;
                take();
            }
            return true;
        }

        private boolean takeCue(House house) {
            take();
            if (!isNumberTo(MOMENTS - 1)) {
                return false;
            }
            int moment = number;
            take();
            int cue = cueNamed();
            if (cue < 0) {
                return false;
            }
            house.cues[moment] = cue;
            take();
            return true;
        }

        private boolean takeTense(House house) {
            take();
            if (!isNumberTo(MOMENTS - 1)) {
                return false;
            }
            int moment = number;
            take();
            if (!isNumberTo(MOST_TENSE)) {
                return false;
            }
            house.tenses[moment] = number;
            take();
            return true;
        }

        private boolean takeSwap(House house) {
            take();
            if (!isNumberTo(house.people - 1)) {
                return false;
            }
            int person = number;
            take();
            if (!isNumberTo(house.people - 1) || number == person) {
                return false;
            }
            house.changeSeats(person, number);
            take();
            return true;
        }

        private int kindNamed() {
            for (int kind = SITTER; kind < KINDS; kind++) {
                if (isWord(nameOfKind(kind))) {
                    return kind;
                }
            }
            return -1;
        }

        private int cueNamed() {
            for (int cue = STILL; cue <= CLAP; cue++) {
                if (isWord(nameOfCue(cue))) {
                    return cue;
                }
            }
            return -1;
        }

        private static String nameOfKind(int kind) {
            switch (kind) {
                case COUGHER:
                    return "cougher";
                case WEEPER:
                    return "weeper";
                case SLEEPER:
                    return "sleeper";
                case CLAQUE:
                    return "claque";
                case WIDOW:
                    return "widow";
                default:
                    return "sitter";
            }
        }

        private static String nameOfCue(int cue) {
            switch (cue) {
                case SOB:
                    return "sob";
                case LAUGH:
                    return "laugh";
                case COUGH:
                    return "cough";
                case CLAP:
                    return "clap";
                default:
                    return "still";
            }
        }

        private boolean isNumberTo(int most) {
            return token == NUMBER && number <= most;
        }

        private boolean isWord(String word) {
            if (token != WORD || behind - first != word.length()) {
                return false;
            }
            for (int i = 0; i < word.length(); i++) {
                if (bytes[first + i] != word.charAt(i)) {
                    return false;
                }
            }
            return true;
        }

        /** Looks at the next token; at the end, its first byte is the one behind the last. */
        private void take() {
            first = behind;
            while (first < length && bytes[first] == ' ') {
                first++;
            }
            behind = first;
            if (first >= length) {
                token = END;
            } else if (isLetter(bytes[first])) {
                takeWord();
            } else if (isDigit(bytes[first])) {
                takeNumber();
            } else {
                token = bytes[first] == ';' ? SIGN : NO_TOKEN;
                behind++;
            }
        }

        private void takeWord() {
            token = WORD;
            while (behind < length && isLetter(bytes[behind])) {
                behind++;
            }
        }

        private void takeNumber() {
            token = NUMBER;
            number = 0;
            while (behind < length && isDigit(bytes[behind])) {
                // held, so that a long row of digits can't run over
                number = Math.min(TOO_MUCH, number * 10 + (bytes[behind] - '0'));
                behind++;
            }
        }

        private static boolean isLetter(byte b) {
            return b >= 'a' && b <= 'z';
        }

        private static boolean isDigit(byte b) {
            return b >= '0' && b <= '9';
        }
    }
}
