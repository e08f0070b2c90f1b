import java.util.function.Supplier;

/** The edges that the Terms name of the text, and those of promises 25 to 27: feed, wipe, evening. */
public final class EdgesOfTextTest {
    private static final Due DUE = new Due();
    private static final int MOST_BYTES = 120;

    public static void main(String[] args) {
        sentences().run(DUE);
    }

    static Edges sentences() {
        return new Edges()
            .says("Terms", "THE TEXT of an EVENING, from THE TAPE (bytes, at most 120).", EdgesOfTextTest::tapeOf120)
            .says("Terms", "TOKENS, each as long as can be: WORDS (letters a to z), NUMBERS (digits, 999 at most), SIGN ; ; "
                + "blanks may stand between.", EdgesOfTextTest::tokens)
            .says("Terms", "TEXT: ITEM { ; ITEM }.", EdgesOfTextTest::itemsInARow)
            .says("Terms", "ITEM: the name of a KIND (sitter cougher weeper sleeper claque widow), perhaps fresh and a NUMBER "
                + "(0 to 99): one more; cue, a NUMBER (a MOMENT), then still, sob, laugh, cough or clap; tense, a NUMBER (a "
                + "MOMENT), a NUMBER (0 to 20); swap, two NUMBERS (people there by then, unlike): they change seats.",
                EdgesOfTextTest::items)
            .says("Terms", "FAULT: the place (from 0) of the first byte of the first TOKEN that can't stand there (a NUMBER "
                + "that may not be, another WORD, a byte that begins no TOKEN, the name of a KIND for a 9th: its own), or how "
                + "many bytes there are if it ends too early.", EdgesOfTextTest::faults)
            .says("Promise 25", "THE TAPE gets the n lowest bytes of a number behind it, the highest of these first (n 1 to "
                + "4): how many it has.", EdgesOfTextTest::feeds)
            .says("Promise 25", "BEYOND: n.", EdgesOfTextTest::feedBeyond)
            .says("Promise 25", "FULL.", EdgesOfTextTest::feedFull)
            .says("Promise 26", "THE TAPE is empty: how many it had.", EdgesOfTextTest::wipes)
            .says("Promise 27", "THE TAPE is THE TEXT of an EVENING, whose ITEMS come to what there is, and empty then: how "
                + "many ITEMS.", EdgesOfTextTest::anEvening)
            .says("Promise 27", "With a FAULT: -1 less its place (nothing changes but that THE TAPE is empty; no finding).",
                EdgesOfTextTest::aFaultChangesNothing);
    }

    private static NotedHouse sitters(int people) {
        NotedHouse x = new NotedHouse();
        for (int p = 0; p < people; p++) {
            x.person(0);
        }
        return x;
    }

    /** A text of so many items, told to a house of so many sitters. */
    private static void good(int people, String text, int items) {
        answers(people, text, items);
    }

    private static void fault(int people, String text, int place) {
        answers(people, text, -1 - place);
    }

    private static void answers(int people, String text, int want) {
        NotedHouse x = sitters(people);
        Due.feed(x, text);
        String name = "'" + text + "' told to " + people;
        DUE.is(name, x.evening(), want);
        DUE.is(name + ": no finding", x.status(-1), 0);
        DUE.is(name + ": bytes then", x.count(1), 0);
    }

    /** A text filled up with blanks behind it. */
    private static String upTo(int bytes, String text) {
        return text + " ".repeat(bytes - text.length());
    }

    private static void tapeOf120() {
        good(0, upTo(119, "sitter"), 1);
        good(0, upTo(MOST_BYTES, "sitter"), 1);
        good(0, " ".repeat(114) + "sitter", 1);
        good(0, "sitter fresh" + " ".repeat(106) + "99", 1);
        fault(0, "sitter fresh" + " ".repeat(105) + "100", 117);
        fault(0, upTo(119, "sitter") + ";", MOST_BYTES);
        fault(0, upTo(119, "sitter") + "x", 119);
        fault(0, "x".repeat(MOST_BYTES), 0);
        fault(0, ";".repeat(MOST_BYTES), 0);
        fault(0, " ".repeat(MOST_BYTES), MOST_BYTES);
        fault(0, " ".repeat(119) + "7", 119);
        NotedHouse x = new NotedHouse();
        Due.feed(x, upTo(MOST_BYTES, "widow"));
        DUE.is("a 121st byte", x.feed(' ', 1), Due.FULL);
        DUE.is("the 120 are left", x.count(1), MOST_BYTES);
        DUE.is("and are a text", x.evening(), 1);
        DUE.is("behind which there is room again", x.feed(0, 4), 4);
    }

    private static void tokens() {
        for (int b = 0; b < 256; b++) {
            char c = (char) b;
            boolean letter = c >= 'a' && c <= 'z';
            fault(0, String.valueOf(c), c == ' ' ? 1 : 0);
            answers(0, "sitter" + c, c == ' ' ? 1 : letter ? -1 : c == ';' ? -8 : -7);
            answers(0, c + "sitter", c == ' ' ? 1 : -1);
            boolean digit = c >= '0' && c <= '9';
            answers(0, "sitter fresh " + c, digit ? 1 : c == ' ' ? -15 : -14);
            answers(0, "sitter fresh 1" + c, digit || c == ' ' ? 1 : c == ';' ? -16 : -15);
        }
        // each as long as can be: not two words, not two numbers
        fault(0, "sitterfresh 9", 0);
        fault(0, "tense 0020", 6);
        fault(0, "tense 1520", 6);
        good(0, "tense 00 20", 1);
        fault(2, "swap 01", 7);
        good(2, "swap 0 1", 1);
        good(2, "swap0 1", 1);
        good(0, "cue15clap", 1);
        good(0, "cue 15clap;tense15 20", 2);
        good(0, "sitter fresh99;sitter", 2);
        fault(0, "sitter fresh 999", 13);
        fault(0, "sitter fresh 1000", 13);
        fault(0, "sitter fresh 1000000000000000000099", 13);
        fault(0, "sitter fresh 65536", 13);
        fault(0, "sitter fresh 4294967295", 13);
        fault(0, "sitter fresh 4294967296", 13);
        fault(0, "cue 18446744073709551616 sob", 4);
        good(0, "sitter fresh 0", 1);
        good(0, "   sitter   fresh   7   ;   cue   3   sob   ", 2);
    }

    private static void itemsInARow() {
        fault(0, "", 0);
        fault(0, " ", 1);
        fault(0, ";", 0);
        good(0, "cue 0 sob", 1);
        fault(0, "cue 0 sob;", 10);
        fault(0, "cue 0 sob; ", 11);
        fault(0, ";cue 0 sob", 0);
        good(0, "cue 0 sob;cue 0 sob", 2);
        fault(0, "cue 0 sob;;cue 0 sob", 10);
        fault(0, "cue 0 sob cue 0 sob", 10);
        // as many as can be: fifteen, of seven bytes each
        String fifteen = "cue0sob;".repeat(14) + "cue0sob";
        good(0, fifteen, 15);
        good(0, fifteen + " ", 15);
        fault(0, fifteen + ";", MOST_BYTES);
        good(2, "swap0 1;".repeat(14) + "swap1 0", 15);
    }

    private static void items() {
        people();
        cues();
        tenses();
        swaps();
    }

    /** A word of which any one letter is another is another word. */
    private static void otherLetters(int people, String ahead, String word) {
        for (int i = 0; i < word.length(); i++) {
            String other = word.substring(0, i) + "z" + word.substring(i + 1);
            fault(people, ahead + other, ahead.length());
        }
    }

    private static void people() {
        String[] names = {"sitter", "cougher", "weeper", "sleeper", "claque", "widow"};
        for (int kind = 0; kind < 6; kind++) {
            NotedHouse x = new NotedHouse();
            DUE.is(names[kind], Due.told(x, names[kind] + ";" + names[kind] + " fresh 0;" + names[kind] + " fresh 99"), 3);
            int[] fresh = {60, 0, 99};
            for (int p = 0; p < 3; p++) {
                DUE.is(names[kind] + ": KIND of " + p, x.of(p, 0), kind);
                DUE.is(names[kind] + ": FRESH of " + p, x.of(p, 1), fresh[p]);
                DUE.is(names[kind] + ": NOTE of " + p, x.of(p, 2), 10000);
                DUE.is(names[kind] + ": DID of " + p, x.of(p, 3), 0);
            }
            fault(0, names[kind] + " fresh 100", names[kind].length() + 7);
            fault(0, names[kind] + " fresh -1", names[kind].length() + 7);
            fault(0, names[kind] + " fresh", names[kind].length() + 6);
            fault(0, names[kind] + "x", 0);
            otherLetters(0, "", names[kind]);
            fault(0, names[kind].substring(0, names[kind].length() - 1), 0);
            good(7, names[kind], 1);
            fault(8, names[kind], 0);
        }
        for (String word : new String[] {"fresh", "cue", "tense", "swap"}) {
            otherLetters(0, word.equals("fresh") ? "widow " : "", word);
        }
        good(0, "widow;".repeat(7) + "widow", 8);
        fault(0, "widow;".repeat(8) + "widow", 48);
    }

    private static void cues() {
        String[] names = {"still", "sob", "laugh", "cough", "clap"};
        for (int q = 0; q < 5; q++) {
            NotedHouse x = new NotedHouse();
            DUE.is(names[q], Due.told(x, "cue 0 " + names[q] + ";cue 15 " + names[q]), 2);
            DUE.is(names[q] + ": CUE of 0", x.play(0, 0, 0), q);
            DUE.is(names[q] + ": CUE of 15", x.play(15, 0, 0), q);
            DUE.is(names[q] + ": CUE of 1", x.play(1, 0, 0), 1);
            DUE.is(names[q] + ": CUE of 14", x.play(14, 0, 0), 4);
            fault(0, "cue 16 " + names[q], 4);
            fault(0, "cue -1 " + names[q], 4);
            fault(0, "cue " + names[q], 4);
            fault(0, "cue 15 " + names[q] + "s", 7);
            otherLetters(0, "cue 15 ", names[q]);
            fault(0, "cue 15 " + names[q] + " 1", 8 + names[q].length());
        }
        fault(0, "cue 15", 6);
        fault(0, "cue 15 4", 7);
        fault(0, "cue 15 sitter", 7);
    }

    private static void tenses() {
        for (int moment : new int[] {0, 15}) {
            for (int t : new int[] {0, 20}) {
                NotedHouse x = new NotedHouse();
                DUE.is("tense", Due.told(x, "tense " + moment + " " + t), 1);
                DUE.is("TENSE of all", x.count(2), 75 + t);
                DUE.is("TENSE of " + moment, x.play(moment, 1, 0), t);
            }
        }
        fault(0, "tense 16 0", 6);
        fault(0, "tense 99 0", 6);
        fault(0, "tense 15 21", 9);
        fault(0, "tense 0 21", 8);
        fault(0, "tense 0 99", 8);
        fault(0, "tense 0 -1", 8);
        fault(0, "tense -1 0", 6);
        fault(0, "tense 0", 7);
        fault(0, "tense", 5);
        fault(0, "tense 0 0 0", 10);
    }

    private static void swaps() {
        for (int people : new int[] {2, 8}) {
            int last = people - 1;
            NotedHouse x = sitters(people);
            x.set(0, 1, 1);
            x.set(last, 1, 2);
            DUE.is("swap 0 " + last, Due.told(x, "swap 0 " + last), 1);
            DUE.is("FRESH in 0", x.of(0, 1), 2);
            DUE.is("FRESH in " + last, x.of(last, 1), 1);
            DUE.is("swap " + last + " 0", Due.told(x, "swap " + last + " 0"), 1);
            DUE.is("FRESH in 0 again", x.of(0, 1), 1);
            fault(people, "swap 0 " + people, 7);
            fault(people, "swap " + people + " 0", 5);
            fault(people, "swap " + last + " " + last, 7);
            fault(people, "swap 0 0", 7);
        }
        fault(0, "swap 0 1", 5);
        fault(1, "swap 0 1", 7);
        fault(1, "swap 0 0", 7);
        fault(1, "swap 1 0", 5);
        // there by then: those of the items ahead are, those of the items behind are not
        good(1, "sitter;swap 0 1", 2);
        good(0, "sitter;sitter;swap 1 0", 3);
        fault(1, "swap 0 1;sitter", 7);
        fault(0, "sitter;swap 0 1;sitter", 14);
        good(7, "widow;swap 7 0", 2);
        fault(7, "widow;swap 8 0", 11);
    }

    private static void faults() {
        // the first of several
        fault(0, "foo;bar", 0);
        fault(0, "sitter;foo;bar", 7);
        fault(0, "cue 16 foo", 4);
        fault(0, "tense 16 21", 6);
        fault(0, "tense 15 21;foo", 9);
        // a NUMBER that may not be, another WORD, a byte that begins no TOKEN
        fault(0, "  cue   16 sob", 8);
        fault(0, "  cue   15 sobs", 11);
        fault(0, "  cue   15 !sob", 11);
        fault(0, "  cue   15 sob!", 14);
        fault(0, "!", 0);
        fault(0, "0", 0);
        fault(0, "fresh", 0);
        fault(0, "sitter fresh fresh", 13);
        // the name of a KIND for a 9th, before what stands behind it
        fault(8, "claque fresh 100", 0);
        fault(8, "cue 0 sob;claque", 10);
        fault(8, "cue 0 sob;  claque fresh", 12);
        fault(8, "claqued", 0);
        // it ends too early: blanks at the end are bytes, too
        String[] ends = {"", "sitter;", "sitter fresh", "cue", "cue 0", "tense", "tense 0", "swap", "swap 0"};
        for (String end : ends) {
            fault(1, end, end.length());
            fault(1, end + " ", end.length() + 1);
            fault(1, upTo(119, end), 119);
            fault(1, upTo(MOST_BYTES, end), MOST_BYTES);
        }
    }

    private static void feeds() {
        // a sob in MOMENT 1, byte by byte, two by two, and so on; what lies above the n lowest bytes is left out
        int[][] words = {{0x12345663, 1}, {0xffff7565, 2}, {0x7f203120, 3}, {0x6c617567, 4}, {0xffffff68, 1}};
        NotedHouse x = new NotedHouse();
        int bytes = 0;
        for (int[] word : words) {
            bytes += word[1];
            DUE.is("feed " + word[1], x.feed(word[0], word[1]), bytes);
            DUE.is("count(1)", x.count(1), bytes);
        }
        DUE.is("evening()", x.evening(), 1);
        DUE.is("CUE of 1", x.play(1, 0, 0), 2);
        NotedHouse y = new NotedHouse();
        for (int i = 1; i <= MOST_BYTES; i++) {
            DUE.is("byte " + i, y.feed(Integer.MIN_VALUE, 1), i);
        }
    }

    private static void feedBeyond() {
        Refused.outside(DUE, NotedHouse::new, "feed(97, %d)", 1, 4, (x, v) -> x.feed(97, v));
        Refused.outside(DUE, Refused::small, "feed(-1, %d)", 1, 4, (x, v) -> x.feed(-1, v));
        Refused.outside(DUE, withBytes(MOST_BYTES), "full: feed(32, %d)", 1, 4, (x, v) -> x.feed(32, v));
    }

    private static Supplier<NotedHouse> withBytes(int bytes) {
        return () -> {
            NotedHouse x = new NotedHouse();
            Due.feed(x, upTo(bytes, "claque fresh 3"));
            return x;
        };
    }

    private static void feedFull() {
        for (int room = 0; room <= 4; room++) {
            int bytes = MOST_BYTES - room;
            for (int n = 1; n <= 4; n++) {
                int many = n;
                if (n <= room) {
                    NotedHouse x = withBytes(bytes).get();
                    DUE.is(bytes + " bytes: feed " + n, x.feed(0x20202020, n), bytes + n);
                    DUE.is(bytes + " bytes and " + n + ": evening()", x.evening(), 1);
                } else {
                    Refused.is(DUE, withBytes(bytes), bytes + " bytes: feed " + n, Due.FULL, x -> x.feed(-1, many));
                }
            }
        }
    }

    private static void wipes() {
        for (int bytes : new int[] {14, 15, 119, 120}) {
            NotedHouse x = withBytes(bytes).get();
            DUE.is(bytes + ": wipe()", x.wipe(), bytes);
            DUE.is(bytes + ": count(1)", x.count(1), 0);
            DUE.is(bytes + ": wipe() again", x.wipe(), 0);
            DUE.is(bytes + ": nothing is left of it", x.evening(), -1);
            DUE.is(bytes + ": nobody came", x.count(0), 0);
            DUE.is(bytes + ": it has room again", Due.told(x, upTo(MOST_BYTES, "widow")), 1);
        }
        DUE.is("a new one: wipe()", new NotedHouse().wipe(), 0);
    }

    private static void anEvening() {
        NotedHouse x = new NotedHouse();
        DUE.is("all of it", Due.told(x, "claque fresh 99;widow;swap 0 1;cue 15 clap;tense 15 20"), 5);
        DUE.is("count(1)", x.count(1), 0);
        DUE.is("count(0)", x.count(0), 2);
        DUE.is("KIND of 0", x.of(0, 0), Due.WIDOW);
        DUE.is("FRESH of 1", x.of(1, 1), 99);
        DUE.is("count(2)", x.count(2), 95);
        DUE.is("the same again is nothing", x.evening(), -1);
        DUE.is("still two", x.count(0), 2);
        // what there is stays: NIGHT, MOMENT, NOTES; the new ones come to it
        x.moments(17);
        int note = x.of(1, 2);
        DUE.is("one more", Due.told(x, "sitter"), 1);
        DUE.is("NIGHT", x.now(0), 1);
        DUE.is("MOMENT", x.now(1), 1);
        DUE.is("NOTE of 1", x.of(1, 2), note);
        DUE.is("count(0) then", x.count(0), 3);
        DUE.is("CUE of 15", x.play(15, 0, 4), 4);
        for (int n = 3; n < 8; n++) {
            DUE.is("one more", Due.told(x, "sitter"), 1);
        }
        DUE.is("eight are there", x.count(0), 8);
        DUE.is("a 9th", Due.told(x, "sitter"), -1);
        DUE.is("eight are there still", x.count(0), 8);
    }

    private static void aFaultChangesNothing() {
        String[] texts = {"", ";", "sitter;", "sitter fresh 100", "widow;claque;cue 1 clap;tense 2 19;swap 0 1;foo",
            "swap 0 1;swap 1 2;swap 2 2", "cue 0 clap;cue 15 clap;cue 16 clap", "tense 0 20;tense 1 20;tense 2 21",
            upTo(MOST_BYTES, "widow fresh 1;widow fresh 2;")};
        int[] places = {0, 0, 7, 13, 44, 25, 27, 30, 120};
        for (int i = 0; i < texts.length; i++) {
            NotedHouse x = Refused.small();
            x.wipe();
            NotedHouse y = Refused.small();
            y.wipe();
            DUE.is("'" + texts[i] + "'", Due.told(x, texts[i]), -1 - places[i]);
            DUE.is("'" + texts[i] + "': status(-1)", x.status(-1), y.status(-1));
            DUE.holds("'" + texts[i] + "': all is left", Refused.seen(x).equals(Refused.seen(y)));
        }
    }
}
