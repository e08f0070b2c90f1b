/** Promises 25 to 27: feed, wipe, evening. */
public final class TextTest {
    private static final Due DUE = new Due();

    public static void main(String[] args) {
        feedPutsTheHighestFirst();
        feedRefuses();
        wipes();
        itemsCome();
        namesOfKinds();
        namesOfCues();
        blanksAndTokens();
        faultsOfPeople();
        faultsOfCues();
        faultsOfTense();
        faultsOfSwap();
        faultsBetweenItems();
        theNinth();
        aFaultChangesNothing();
        fullTapes();
        DUE.end();
    }

    /** A text told to a house of so many sitters. */
    private static void tells(int people, String text, int want) {
        NotedHouse x = new NotedHouse();
        for (int p = 0; p < people; p++) {
            x.person(0);
        }
        Due.feed(x, text);
        DUE.is("'" + text + "' to " + people + ": bytes", x.count(1), text.length());
        DUE.is("'" + text + "' to " + people, x.evening(), want);
        DUE.is("'" + text + "' to " + people + ": bytes then", x.count(1), 0);
        DUE.is("'" + text + "' to " + people + ": no finding", x.status(-1), 0);
    }

    private static void fault(int people, String text, int place) {
        tells(people, text, -1 - place);
    }

    private static void feedPutsTheHighestFirst() {
        NotedHouse x = new NotedHouse();
        DUE.is("feed 'w'", x.feed(0x7a7a7a77, 1), 1);
        DUE.is("feed 'id'", x.feed(0x7a7a6964, 2), 3);
        DUE.is("feed 'ow;'", x.feed(0x7a6f773b, 3), 6);
        DUE.is("feed 'clap' and on", x.feed(0x636c6171, 4), 10);
        DUE.is("feed 'ue'", x.feed(0x7565, 2), 12);
        DUE.is("count(1)", x.count(1), 12);
        DUE.is("evening()", x.evening(), 2);
        DUE.is("of(0, 0)", x.of(0, 0), Due.WIDOW);
        DUE.is("of(1, 0)", x.of(1, 0), Due.CLAQUE);
    }

    private static void feedRefuses() {
        NotedHouse x = new NotedHouse();
        int[] bad = {0, 5, -1, Integer.MIN_VALUE, Integer.MAX_VALUE};
        for (int n : bad) {
            DUE.is("feed(0, " + n + ")", x.feed(0, n), Due.BEYOND);
        }
        for (int i = 1; i <= 29; i++) {
            DUE.is("feed " + i, x.feed(-1, 4), 4 * i);
        }
        DUE.is("feed to 119", x.feed(-1, 3), 119);
        for (int n = 2; n <= 4; n++) {
            DUE.is("feed " + n + " more", x.feed(-1, n), Due.FULL);
        }
        DUE.is("it is left: count(1)", x.count(1), 119);
        DUE.is("feed to 120", x.feed(-1, 1), 120);
        DUE.is("feed one more", x.feed(-1, 1), Due.FULL);
        DUE.is("feed none more, BEYOND first", x.feed(-1, 0), Due.BEYOND);
        DUE.is("count(1)", x.count(1), 120);
        DUE.is("status(0)", x.status(0), bad.length + 1);
        DUE.is("status(1)", x.status(1), 4);
    }

    private static void wipes() {
        NotedHouse x = new NotedHouse();
        DUE.is("wipe() of none", x.wipe(), 0);
        Due.feed(x, "nonsense");
        DUE.is("wipe()", x.wipe(), 8);
        DUE.is("wiped: count(1)", x.count(1), 0);
        DUE.is("wipe() again", x.wipe(), 0);
        DUE.is("what comes then is alone there", Due.told(x, "sitter"), 1);
    }

    private static void itemsCome() {
        NotedHouse x = Due.houseOf(0, 1);
        x.set(0, 2, 5);
        x.set(1, 3, 2);
        x.moments(3);
        int did = x.of(1, 3);
        int note = x.of(0, 2);
        DUE.is("evening", Due.told(x, "widow fresh 7;cue 15 clap;tense 3 20;swap 0 2;sleeper;swap 3 1"), 6);
        DUE.is("count(0)", x.count(0), 4);
        int[] kinds = {Due.WIDOW, Due.SLEEPER, Due.SITTER, Due.COUGHER};
        int[] fresh = {7, 60, 60, 60};
        for (int p = 0; p < 4; p++) {
            DUE.is("told: kind of " + p, x.of(p, 0), kinds[p]);
            DUE.is("told: FRESH of " + p, x.of(p, 1), fresh[p]);
        }
        DUE.is("told: NOTE goes along", x.of(2, 2), note);
        DUE.is("told: NOTE of a new one", x.of(0, 2), 10000);
        DUE.is("told: DID goes along", x.of(3, 3), did);
        DUE.is("told: DID of a new one", x.of(1, 3), 0);
        DUE.is("told: now(0)", x.now(0), 0);
        DUE.is("told: now(1)", x.now(1), 3);
        DUE.is("told: now(3)", x.now(3), 20);
        DUE.is("told: cue of 15", x.play(15, 0, 0), 4);
        DUE.is("told: count(2)", x.count(2), 95);
        DUE.is("told: cue of 14", x.play(14, 0, 0), 4);
        DUE.is("the later holds", Due.told(x, "cue 2 sob;cue 2 laugh;tense 0 1;tense 0 2;tense 0 3"), 5);
        DUE.is("the later cue", x.play(2, 0, 0), 2);
        DUE.is("the later tense", x.play(0, 1, 0), 3);
    }

    private static void namesOfKinds() {
        String[] names = {"sitter", "cougher", "weeper", "sleeper", "claque", "widow"};
        for (int kind = 0; kind < 6; kind++) {
            NotedHouse x = new NotedHouse();
            DUE.is(names[kind], Due.told(x, names[kind]), 1);
            DUE.is(names[kind] + ": kind", x.of(0, 0), kind);
            DUE.is(names[kind] + ": FRESH", x.of(0, 1), 60);
            DUE.is(names[kind] + " fresh 0", Due.told(x, names[kind] + " fresh 0"), 1);
            DUE.is(names[kind] + " fresh 0: FRESH", x.of(1, 1), 0);
            DUE.is(names[kind] + " fresh 99", Due.told(x, names[kind] + " fresh 99"), 1);
            DUE.is(names[kind] + " fresh 99: FRESH", x.of(2, 1), 99);
            fault(0, names[kind] + "s", 0);
            fault(0, names[kind].substring(1), 0);
            fault(0, names[kind].substring(0, names[kind].length() - 1), 0);
        }
    }

    private static void namesOfCues() {
        String[] names = {"still", "sob", "laugh", "cough", "clap"};
        for (int cue = 0; cue < 5; cue++) {
            NotedHouse x = new NotedHouse();
            DUE.is(names[cue], Due.told(x, "cue 7 " + names[cue] + ";cue 0 " + names[cue]), 2);
            DUE.is(names[cue] + ": cue of 7", x.play(7, 0, 0), cue);
            DUE.is(names[cue] + ": cue of 0", x.play(0, 0, 0), cue);
            fault(0, "cue 7 " + names[cue] + "s", 6);
            fault(0, names[cue], 0);
        }
    }

    private static void blanksAndTokens() {
        tells(0, "sitter", 1);
        tells(0, "  sitter  ", 1);
        tells(0, "sitter fresh 7", 1);
        tells(0, "sitter  fresh  7  ;  sitter", 2);
        tells(0, "sitter fresh7;sitter", 2);
        tells(0, "cue3sob;tense4 5", 2);
        tells(0, "cue 3sob", 1);
        tells(0, "tense 4 5;tense 15 20;tense 0 0", 3);
        fault(0, "tense 45", 6);
        tells(0, "sitter fresh 007", 1);
        tells(0, "sitter fresh 000000000000000000000000000000099", 1);
        fault(0, "sitter fresh 000000000000000000000000000000100", 13);
        fault(0, "sitter fresh 4294967296", 13);
        fault(0, "sitter fresh 18446744073709551616", 13);
        fault(0, "sitterfresh 7", 0);
        fault(0, "sitterz", 0);
        fault(0, "sittera", 0);
        fault(0, "sitter\tfresh 7", 6);
        fault(0, "sitter\nfresh 7", 6);
        fault(0, "Sitter", 0);
        fault(0, "sItter", 0);
        fault(0, "\u00e9", 0);
        fault(0, "\0sitter", 0);
        fault(0, "sitter\0", 6);
        fault(0, "sitter\u00a0", 6);
        fault(0, "sitter fresh -1", 13);
        fault(0, "sitter`", 6);
        fault(0, "sitter{", 6);
        fault(0, "sitter fresh /", 13);
        fault(0, "sitter fresh :", 13);
    }

    private static void faultsOfPeople() {
        fault(0, "sitter 7", 7);
        fault(0, "sitter fresh", 12);
        fault(0, "sitter fresh  ", 14);
        fault(0, "sitter fresh;", 12);
        fault(0, "sitter fresh fresh", 13);
        fault(0, "sitter fresh 100", 13);
        fault(0, "sitter fresh 999", 13);
        fault(0, "sitter fresh 1000", 13);
        fault(0, "sitter fresh 7 8", 15);
        fault(0, "sitter fresh 7 fresh 8", 15);
        fault(0, "sitter freshly 7", 7);
        fault(0, "sitter sitter", 7);
        fault(0, "sitter tense 7", 7);
        fault(0, "fresh 7", 0);
        fault(0, "7", 0);
        fault(0, "still", 0);
    }

    private static void faultsOfCues() {
        fault(0, "cue", 3);
        fault(0, "cue  ", 5);
        fault(0, "cue sob", 4);
        fault(0, "cue 16 sob", 4);
        tells(0, "cue 15 sob", 1);
        tells(0, "cue 0 sob", 1);
        fault(0, "cue 3", 5);
        fault(0, "cue 3 3", 6);
        fault(0, "cue 3 sitter", 6);
        fault(0, "cue 3;", 5);
        fault(0, "cue;", 3);
        fault(0, "cue 3 sob 1", 10);
        fault(0, "cue 3 sob sob", 10);
        fault(0, "cues 3 sob", 0);
        fault(0, "cue ! sob", 4);
    }

    private static void faultsOfTense() {
        fault(0, "tense", 5);
        fault(0, "tense 3", 7);
        fault(0, "tense 3 ", 8);
        fault(0, "tense 16 1", 6);
        fault(0, "tense 15 21", 9);
        fault(0, "tense 15 1000", 9);
        fault(0, "tense 3 sob", 8);
        fault(0, "tense sob 3", 6);
        fault(0, "tense 3;4", 7);
        fault(0, "tense 3 4 5", 10);
        fault(0, "tense 3 4 fresh", 10);
    }

    private static void faultsOfSwap() {
        fault(0, "swap 0 1", 5);
        fault(1, "swap 0 1", 7);
        tells(2, "swap 0 1", 1);
        tells(2, "swap 1 0", 1);
        fault(2, "swap 1 1", 7);
        fault(2, "swap 0 0", 7);
        fault(2, "swap 2 0", 5);
        fault(2, "swap 0 2", 7);
        tells(2, "sitter;swap 0 2", 2);
        tells(1, "sitter;swap 0 1;swap 1 0", 3);
        fault(1, "swap 0 1;sitter", 7);
        tells(8, "swap 0 7", 1);
        fault(8, "swap 0 8", 7);
        fault(8, "swap 8 0", 5);
        fault(2, "swap", 4);
        fault(2, "swap 0", 6);
        fault(2, "swap 0;", 6);
        fault(2, "swap 0 sitter", 7);
        fault(2, "swap sitter", 5);
        fault(2, "swap 0 1 2", 9);
    }

    private static void faultsBetweenItems() {
        fault(0, "", 0);
        fault(0, " ", 1);
        fault(0, "    ", 4);
        fault(0, ";", 0);
        fault(0, "  ;", 2);
        fault(0, "sitter;", 7);
        fault(0, "sitter; ", 8);
        fault(0, "sitter;;sitter", 7);
        fault(0, "sitter ; ; sitter", 9);
        fault(0, "sitter;7", 7);
        fault(0, "sitter;foo", 7);
        fault(0, "sitter,sitter", 6);
        fault(0, "sitter;cue 3 sob;tense 3 99;foo", 25);
    }

    private static void theNinth() {
        tells(7, "sitter", 1);
        fault(8, "sitter", 0);
        fault(8, "sitter fresh 100", 0);
        fault(7, "widow;widow", 6);
        fault(7, "widow fresh 100;widow", 12);
        fault(8, "cue 3 sob; widow", 11);
        tells(8, "cue 3 sob;swap 1 2", 2);
        tells(0, "widow;widow;widow;widow;widow;widow;widow;widow", 8);
        fault(0, "widow;widow;widow;widow;widow;widow;widow;widow;widow", 48);
        NotedHouse x = Due.houseOf(0, 0, 0, 0, 0, 0, 0, 0);
        Due.told(x, "sitter");
        DUE.is("a ninth in a text is no finding", x.status(-1), 0);
    }

    private static void aFaultChangesNothing() {
        NotedHouse x = Due.houseOf(0, 1);
        x.moments(2);
        int note = x.of(0, 2);
        DUE.is("a fault", Due.told(x, "widow fresh 3;cue 2 sob;tense 2 20;swap 0 1;foo"), -45);
        DUE.is("fault: count(0)", x.count(0), 2);
        DUE.is("fault: count(1)", x.count(1), 0);
        DUE.is("fault: of(0, 0)", x.of(0, 0), 0);
        DUE.is("fault: of(0, 2)", x.of(0, 2), note);
        DUE.is("fault: now(2)", x.now(2), 2);
        DUE.is("fault: now(3)", x.now(3), 5);
        DUE.is("fault: status(-1)", x.status(-1), 0);
        DUE.is("and then", Due.told(x, "widow"), 1);
        DUE.is("and then: count(0)", x.count(0), 3);
    }

    private static void fullTapes() {
        StringBuilder text = new StringBuilder();
        for (int i = 0; i < 12; i++) {
            text.append("cue 3 sob;");
        }
        fault(0, text.toString(), 120);
        text.setCharAt(119, ' ');
        tells(0, text.toString(), 12);
        text.setCharAt(119, 's');
        fault(0, text.toString(), 116);
        fault(0, "z".repeat(120), 0);
        fault(0, " ".repeat(120), 120);
        tells(0, "sitter fresh " + "0".repeat(106) + "1", 1);
        fault(0, "sitter fresh " + "9".repeat(107), 13);
    }
}
