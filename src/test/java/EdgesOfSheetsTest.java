/** The edges that section 3 of the Terms and promises 28 to 33 name: sheet, write, copy, lays, book, read. */
public final class EdgesOfSheetsTest {
    private static final Due DUE = new Due();
    private static final int[] BITS = {8, 16, 64};
    private static final int MOST_NUMBERS = 40;

    public static void main(String[] args) {
        sentences().run(DUE);
    }

    static Edges sentences() {
        return new Edges()
            .says("Terms", "SHEETS 0 to 3 are rows of at most 40 numbers of 8, 16 or 64 bits, or MISSING (at first).",
                EdgesOfSheetsTest::sheetsAtFirst)
            .says("Promise 28", "A sheet has n numbers, all 0, of 8, 16 or 64 bits; bits 0: it is MISSING: n (0 if it is "
                + "MISSING).", EdgesOfSheetsTest::sheetsAreLaid)
            .says("Promise 28", "BEYOND: no such sheet, other bits.", EdgesOfSheetsTest::noSuchSheetOrBits)
            .says("Promise 28", "SIZE: n is below 0 (also with bits 0).", EdgesOfSheetsTest::belowNone)
            .says("Promise 28", "BEYOND: n is above 40 (also with bits 0).", EdgesOfSheetsTest::aboveForty)
            .says("Promise 29", "Number i of a sheet becomes v (its lowest bits): what it was.",
                EdgesOfSheetsTest::writesLowestBits)
            .says("Promise 29", "BEYOND: no such sheet.", EdgesOfSheetsTest::writeNoSuchSheet)
            .says("Promise 29", "MISSING.", EdgesOfSheetsTest::writeMissing)
            .says("Promise 29", "BEYOND: no such number.", EdgesOfSheetsTest::writeNoSuchNumber)
            .says("Promise 30", "n numbers of a sheet from one on come to another one from one on (as they all were): n.",
                EdgesOfSheetsTest::copiesAsTheyWere)
            .says("Promise 30", "BEYOND: no such sheet (either).", EdgesOfSheetsTest::copyNoSuchSheet)
            .says("Promise 30", "MISSING: one is.", EdgesOfSheetsTest::copyMissing)
            .says("Promise 30", "KIND: they are not of as many bits.", EdgesOfSheetsTest::copyOtherBits)
            .says("Promise 30", "BEYOND: one has not so many, or from, to or n is below 0.",
                EdgesOfSheetsTest::copyNotSoMany)
            .says("Promise 31", "Numbers of a sheet become FRESH of PEOPLE 0, 1, .. (those that aren't 0 to 99, or stand for "
                + "none, are left out): how many came.", EdgesOfSheetsTest::laysFresh)
            .says("Promise 31", "BEYOND: no such sheet.", EdgesOfSheetsTest::laysNoSuchSheet)
            .says("Promise 31", "MISSING.", EdgesOfSheetsTest::laysMissing)
            .says("Promise 32", "A book: what one DOES in this MOMENT, the next one, .. comes to a sheet, as many as it has "
                + "numbers: how many.", EdgesOfSheetsTest::books)
            .says("Promise 32", "BEYOND: no such sheet.", () -> noSuchSheet("book(%d, 0)", (x, v) -> x.book(v, 0)))
            .says("Promise 32", "MISSING.", EdgesOfSheetsTest::bookMissing)
            .says("Promise 32", "BEYOND: person.", EdgesOfSheetsTest::bookNoSuchPerson)
            .says("Promise 33", "THE READER: numbers of a sheet are what one DOES in this MOMENT, the next one, ..: how many "
                + "pairs of a KIND and FRESH (0 to 99) of it make it just so.", EdgesOfSheetsTest::reads)
            .says("Promise 33", "BEYOND: no such sheet.", () -> noSuchSheet("read(%d, 0)", (x, v) -> x.read(v, 0)))
            .says("Promise 33", "MISSING.", EdgesOfSheetsTest::readMissing)
            .says("Promise 33", "BEYOND: person.", EdgesOfSheetsTest::readNoSuchPerson);
    }

    private static void noSuchSheet(String call, Refused.With asked) {
        Refused.outside(DUE, Refused::full, call, 0, 3, asked);
        Refused.outside(DUE, Refused::small, call, 0, 3, asked);
    }

    private static NotedHouse withRow(int s, int bits, long... row) {
        NotedHouse x = new NotedHouse();
        lay(x, s, bits, row);
        return x;
    }

    private static void lay(NotedHouse x, int s, int bits, long... row) {
        x.sheet(s, bits, row.length);
        for (int i = 0; i < row.length; i++) {
            x.write(s, i, row[i]);
        }
    }

    /** Reads the row and that it ends there; each number becomes 0 by that. */
    private static void rowIs(String what, NotedHouse x, int s, long... want) {
        for (int i = 0; i < want.length; i++) {
            DUE.is(what + ": number " + i, x.write(s, i, 0), want[i]);
        }
        DUE.is(what + ": no more", x.write(s, want.length, 0), Due.BEYOND);
    }

    private static long[] upward(int n) {
        long[] row = new long[n];
        for (int i = 0; i < n; i++) {
            row[i] = i + 1;
        }
        return row;
    }

    private static void sheetsAtFirst() {
        NotedHouse x = new NotedHouse();
        for (int s = 0; s < 4; s++) {
            DUE.is("at first: write(" + s + ", 0, 0)", x.write(s, 0, 0), Due.MISSING);
            DUE.is("at first: lays(" + s + ")", x.lays(s), Due.MISSING);
        }
        DUE.is("write(-1, 0, 0)", x.write(-1, 0, 0), Due.BEYOND);
        DUE.is("write(4, 0, 0)", x.write(4, 0, 0), Due.BEYOND);
        for (int s = 0; s < 4; s++) {
            DUE.is("sheet(" + s + ", 64, 40)", x.sheet(s, 64, 40), 40);
            x.write(s, 39, 100 + s);
        }
        for (int s = 0; s < 4; s++) {
            DUE.is("the 40th of " + s, x.write(s, 39, 0), 100 + s);
            DUE.is("a 41st of " + s, x.write(s, 40, 0), Due.BEYOND);
        }
    }

    private static void sheetsAreLaid() {
        for (int bits : BITS) {
            for (int n : new int[] {0, 1, 39, MOST_NUMBERS}) {
                NotedHouse x = withRow(3, 64, upward(MOST_NUMBERS));
                DUE.is("sheet(3, " + bits + ", " + n + ")", x.sheet(3, bits, n), n);
                rowIs("all 0", x, 3, new long[n]);
                // and no number of before comes out behind it
                DUE.is("longer again", x.sheet(3, bits, MOST_NUMBERS), MOST_NUMBERS);
                rowIs("all 0 again", x, 3, new long[MOST_NUMBERS]);
            }
        }
        for (int n : new int[] {0, 1, MOST_NUMBERS}) {
            NotedHouse x = withRow(0, 8, 5, 6);
            lay(x, 1, 8, 7);
            DUE.is("sheet(0, 0, " + n + ")", x.sheet(0, 0, n), 0);
            DUE.is("it is MISSING", x.write(0, 0, 0), Due.MISSING);
            DUE.is("sheet(0, 0, " + n + ") again", x.sheet(0, 0, n), 0);
            DUE.is("another is left", x.write(1, 0, 0), 7);
            DUE.is("there again", x.sheet(0, 16, 2), 2);
            rowIs("there again", x, 0, 0, 0);
        }
    }

    private static void noSuchSheetOrBits() {
        for (int bits : new int[] {0, 8, 16, 64}) {
            Refused.outside(DUE, Refused::small, "sheet(%d, " + bits + ", 1)", 0, 3, (x, v) -> x.sheet(v, bits, 1));
            for (int s : new int[] {-1, 4, Integer.MIN_VALUE, Integer.MAX_VALUE}) {
                Refused.is(DUE, Refused::small, "sheet(" + s + ", " + bits + ", -1)", Due.BEYOND, x -> x.sheet(s, bits, -1));
            }
        }
        int[] others = {-1, 1, 7, 9, 15, 17, 32, 63, 65, -8, -16, -64, 256 + 8, Integer.MIN_VALUE, Integer.MAX_VALUE};
        for (int bits : others) {
            for (int n : new int[] {-1, 0, 1, 40, 41}) {
                Refused.is(DUE, Refused::small, "sheet(0, " + bits + ", " + n + ")", Due.BEYOND, x -> x.sheet(0, bits, n));
            }
            Refused.is(DUE, Refused::small, "sheet(3, " + bits + ", 1)", Due.BEYOND, x -> x.sheet(3, bits, 1));
        }
    }

    private static void belowNone() {
        for (int bits : new int[] {0, 8, 16, 64}) {
            DUE.is("sheet(0, " + bits + ", 0)", Refused.small().sheet(0, bits, 0), 0);
            for (int n : new int[] {-1, -2, -40, -41, Integer.MIN_VALUE}) {
                Refused.is(DUE, Refused::small, "sheet(0, " + bits + ", " + n + ")", Due.SIZE, x -> x.sheet(0, bits, n));
                Refused.is(DUE, Refused::small, "sheet(3, " + bits + ", " + n + ")", Due.SIZE, x -> x.sheet(3, bits, n));
            }
        }
    }

    private static void aboveForty() {
        for (int bits : new int[] {0, 8, 16, 64}) {
            DUE.is("sheet(0, " + bits + ", 40)", Refused.small().sheet(0, bits, 40), bits == 0 ? 0 : 40);
            for (int n : new int[] {41, 42, 64, Integer.MAX_VALUE}) {
                Refused.is(DUE, Refused::small, "sheet(0, " + bits + ", " + n + ")", Due.BEYOND, x -> x.sheet(0, bits, n));
                Refused.is(DUE, Refused::small, "sheet(3, " + bits + ", " + n + ")", Due.BEYOND, x -> x.sheet(3, bits, n));
            }
        }
    }

    private static void writesLowestBits() {
        long[] written = {0, 1, -1, 127, 128, 129, 255, 256, 257, -127, -128, -129, -256, 32767, 32768, 32769, 65535,
            65536, 65537, -32767, -32768, -32769, -65536, Integer.MAX_VALUE, Integer.MIN_VALUE, 1L << 32,
            Long.MAX_VALUE, Long.MIN_VALUE, Long.MIN_VALUE + 1};
        long[] in8 = {0, 1, -1, 127, -128, -127, -1, 0, 1, -127, -128, 127, 0, -1, 0, 1, -1,
            0, 1, 1, 0, -1, 0, -1, 0, 0, -1, 0, 1};
        long[] in16 = {0, 1, -1, 127, 128, 129, 255, 256, 257, -127, -128, -129, -256, 32767, -32768, -32767, -1,
            0, 1, -32767, -32768, 32767, 0, -1, 0, 0, -1, 0, 1};
        long[][] want = {in8, in16, written};
        for (int b = 0; b < 3; b++) {
            NotedHouse x = new NotedHouse();
            x.sheet(0, BITS[b], MOST_NUMBERS);
            for (int i : new int[] {0, 39}) {
                long was = 0;
                for (int k = 0; k < written.length; k++) {
                    DUE.is("write(0, " + i + ", " + written[k] + ") in " + BITS[b], x.write(0, i, written[k]), was);
                    was = want[b][k];
                }
                DUE.is("the last one", x.write(0, i, 7), was);
            }
            DUE.is("the one behind the first is left", x.write(0, 1, 0), 0);
            DUE.is("the one ahead of the last is left", x.write(0, 38, 0), 0);
        }
    }

    private static void writeNoSuchSheet() {
        noSuchSheet("write(%d, 0, 5)", (x, v) -> x.write(v, 0, 5));
        // asked before the number
        Refused.is(DUE, Refused::small, "write(-1, 99, 5)", Due.BEYOND, x -> x.write(-1, 99, 5));
        Refused.is(DUE, Refused::small, "write(4, -1, 5)", Due.BEYOND, x -> x.write(4, -1, 5));
    }

    private static void writeMissing() {
        for (int i : new int[] {0, -1, 39, 40, 41, Integer.MIN_VALUE, Integer.MAX_VALUE}) {
            Refused.is(DUE, Refused::small, "write(3, " + i + ", 5)", Due.MISSING, x -> x.write(3, i, 5));
            Refused.is(DUE, NotedHouse::new, "new: write(0, " + i + ", 5)", Due.MISSING, x -> x.write(0, i, 5));
        }
        DUE.is("an empty one is not MISSING", withRow(0, 8).write(0, 0, 5), Due.BEYOND);
    }

    private static void writeNoSuchNumber() {
        for (int bits : BITS) {
            Refused.outside(DUE, () -> withRow(2, bits), "none: write(2, %d, 5)", 0, -1, (x, v) -> x.write(2, v, 5));
            Refused.outside(DUE, () -> withRow(2, bits, 9), "one: write(2, %d, 5)", 0, 0, (x, v) -> x.write(2, v, 5));
            Refused.outside(DUE, () -> withRow(2, bits, upward(40)), "forty: write(2, %d, 5)", 0, 39,
                (x, v) -> x.write(2, v, 5));
        }
    }

    private static void copiesAsTheyWere() {
        for (int bits : BITS) {
            NotedHouse x = withRow(0, bits, upward(MOST_NUMBERS));
            x.sheet(3, bits, MOST_NUMBERS);
            DUE.is("all forty", x.copy(0, 0, 3, 0, 40), 40);
            x.write(0, 0, 77);
            rowIs("all forty", x, 3, upward(MOST_NUMBERS));
            DUE.is("the last to the first", x.copy(0, 39, 3, 0, 1), 1);
            DUE.is("the first to the last", x.copy(0, 0, 3, 39, 1), 1);
            DUE.is("none, behind the last", x.copy(0, 40, 3, 40, 0), 0);
            DUE.is("none, from the first", x.copy(0, 0, 3, 0, 0), 0);
            DUE.is("the first", x.write(3, 0, 0), 40);
            DUE.is("the last", x.write(3, 39, 0), 77);
            DUE.is("the one beside", x.write(3, 1, 0), 0);
            NotedHouse up = withRow(1, bits, 1, 2, 3, 4, 5);
            DUE.is("within one, up", up.copy(1, 0, 1, 1, 4), 4);
            rowIs("within one, up", up, 1, 1, 1, 2, 3, 4);
            NotedHouse down = withRow(1, bits, 1, 2, 3, 4, 5);
            DUE.is("within one, down", down.copy(1, 1, 1, 0, 4), 4);
            rowIs("within one, down", down, 1, 2, 3, 4, 5, 5);
            NotedHouse same = withRow(1, bits, 1, 2, 3, 4, 5);
            DUE.is("within one, onto itself", same.copy(1, 0, 1, 0, 5), 5);
            rowIs("within one, onto itself", same, 1, 1, 2, 3, 4, 5);
            NotedHouse empty = withRow(0, bits);
            empty.sheet(1, bits, 0);
            DUE.is("none of none", empty.copy(0, 0, 1, 0, 0), 0);
            DUE.is("none of none, to itself", empty.copy(0, 0, 0, 0, 0), 0);
        }
        NotedHouse edge = withRow(0, 8, 127, -128, 255);
        edge.sheet(1, 8, 3);
        edge.copy(0, 0, 1, 0, 3);
        rowIs("numbers of 8 bits as they were", edge, 1, 127, -128, -1);
    }

    private static void copyNoSuchSheet() {
        noSuchSheet("copy(%d, 0, 0, 0, 0)", (x, v) -> x.copy(v, 0, 0, 0, 0));
        noSuchSheet("copy(0, 0, %d, 0, 0)", (x, v) -> x.copy(0, 0, v, 0, 0));
        // asked before what is MISSING, and before the numbers
        Refused.is(DUE, Refused::small, "copy(3, -1, 4, -1, -1)", Due.BEYOND, x -> x.copy(3, -1, 4, -1, -1));
        Refused.is(DUE, Refused::small, "copy(-1, -1, 3, -1, -1)", Due.BEYOND, x -> x.copy(-1, -1, 3, -1, -1));
        NotedHouse counted = Refused.small();
        int missing = counted.status(5);
        counted.copy(3, 0, 4, 0, 0);
        counted.copy(4, 0, 3, 0, 0);
        DUE.is("MISSING is not counted", counted.status(5), missing);
    }

    private static void copyMissing() {
        for (int n : new int[] {-1, 0, 1, 41}) {
            Refused.is(DUE, Refused::small, "copy(3, 0, 0, 0, " + n + ")", Due.MISSING, x -> x.copy(3, 0, 0, 0, n));
            Refused.is(DUE, Refused::small, "copy(0, 0, 3, 0, " + n + ")", Due.MISSING, x -> x.copy(0, 0, 3, 0, n));
            Refused.is(DUE, Refused::small, "copy(3, 0, 3, 0, " + n + ")", Due.MISSING, x -> x.copy(3, 0, 3, 0, n));
        }
        Refused.is(DUE, NotedHouse::new, "new: copy(0, 0, 1, 0, 0)", Due.MISSING, x -> x.copy(0, 0, 1, 0, 0));
        NotedHouse x = withRow(0, 8, 1);
        x.sheet(1, 8, 0);
        DUE.is("an empty one is not MISSING", x.copy(0, 0, 1, 0, 0), 0);
    }

    private static void copyOtherBits() {
        for (int s = 0; s < 3; s++) {
            for (int t = 0; t < 3; t++) {
                int from = s;
                int to = t;
                if (s == t) {
                    DUE.is("copy(" + s + ", 0, " + t + ", 1, 1)", Refused.small().copy(s, 0, t, 1, 1), 1);
                } else {
                    for (int n : new int[] {-1, 0, 1, 41}) {
                        Refused.is(DUE, Refused::small, "copy(" + s + ", 0, " + t + ", 0, " + n + ")", Due.KIND,
                            x -> x.copy(from, 0, to, 0, n));
                    }
                }
            }
        }
    }

    /** A sheet of three numbers and one of five, of 16 bits. */
    private static NotedHouse threeAndFive() {
        NotedHouse x = withRow(0, 16, 1, 2, 3);
        lay(x, 1, 16, 11, 12, 13, 14, 15);
        return x;
    }

    private static void copyNotSoMany() {
        Refused.outside(DUE, EdgesOfSheetsTest::threeAndFive, "copy(0, 0, 1, 0, %d)", 0, 3, (x, v) -> x.copy(0, 0, 1, 0, v));
        Refused.outside(DUE, EdgesOfSheetsTest::threeAndFive, "copy(1, 0, 0, 0, %d)", 0, 3, (x, v) -> x.copy(1, 0, 0, 0, v));
        Refused.outside(DUE, EdgesOfSheetsTest::threeAndFive, "copy(1, 2, 0, 1, %d)", 0, 2, (x, v) -> x.copy(1, 2, 0, 1, v));
        Refused.outside(DUE, EdgesOfSheetsTest::threeAndFive, "copy(0, 2, 1, 0, %d)", 0, 1, (x, v) -> x.copy(0, 2, 1, 0, v));
        Refused.outside(DUE, EdgesOfSheetsTest::threeAndFive, "copy(0, %d, 1, 0, 0)", 0, 3, (x, v) -> x.copy(0, v, 1, 0, 0));
        Refused.outside(DUE, EdgesOfSheetsTest::threeAndFive, "copy(0, %d, 1, 0, 1)", 0, 2, (x, v) -> x.copy(0, v, 1, 0, 1));
        Refused.outside(DUE, EdgesOfSheetsTest::threeAndFive, "copy(0, %d, 1, 0, 3)", 0, 0, (x, v) -> x.copy(0, v, 1, 0, 3));
        Refused.outside(DUE, EdgesOfSheetsTest::threeAndFive, "copy(0, 0, 1, %d, 0)", 0, 5, (x, v) -> x.copy(0, 0, 1, v, 0));
        Refused.outside(DUE, EdgesOfSheetsTest::threeAndFive, "copy(0, 0, 1, %d, 1)", 0, 4, (x, v) -> x.copy(0, 0, 1, v, 1));
        Refused.outside(DUE, EdgesOfSheetsTest::threeAndFive, "copy(0, 0, 1, %d, 3)", 0, 2, (x, v) -> x.copy(0, 0, 1, v, 3));
        int most = Integer.MAX_VALUE;
        int least = Integer.MIN_VALUE;
        // sums that run over, and below 0 though all together would lie within
        int[][] far = {{1, 1, most}, {most, 1, 1}, {1, most, 1}, {most, most, most}, {most, 0, most}, {least, least, least},
            {least, 0, most}, {1, 0, -1}, {2, 2, -2}, {-1, 0, 2}, {0, -1, 2}, {3, 0, -3}, {-1, -1, 0}, {-1, 0, 0}, {0, -1, 0}};
        for (int[] f : far) {
            Refused.is(DUE, EdgesOfSheetsTest::threeAndFive, "copy(0, " + f[0] + ", 1, " + f[1] + ", " + f[2] + ")",
                Due.BEYOND, x -> x.copy(0, f[0], 1, f[1], f[2]));
            Refused.is(DUE, EdgesOfSheetsTest::threeAndFive, "copy(0, " + f[0] + ", 0, " + f[1] + ", " + f[2] + ")",
                Due.BEYOND, x -> x.copy(0, f[0], 0, f[1], f[2]));
        }
    }

    private static void laysFresh() {
        long[] numbers = {-1, 0, 1, 98, 99, 100, 127, -128};
        boolean[] comes = {false, true, true, true, true, false, false, false};
        for (int bits : BITS) {
            for (int i = 0; i < numbers.length; i++) {
                NotedHouse x = withRow(0, bits, numbers[i]);
                x.person(0);
                x.person(0);
                DUE.is(numbers[i] + " in " + bits + ": lays(0)", x.lays(0), comes[i] ? 1 : 0);
                DUE.is(numbers[i] + " in " + bits + ": FRESH of 0", x.of(0, 1), comes[i] ? numbers[i] : 60);
                DUE.is(numbers[i] + " in " + bits + ": FRESH of 1", x.of(1, 1), 60);
            }
        }
        for (long wide : new long[] {1L << 32, (1L << 32) + 50, 1L << 63, -(1L << 32) + 7, Long.MAX_VALUE, 256, 65536}) {
            NotedHouse x = withRow(0, 64, wide);
            x.person(0);
            DUE.is(wide + ": lays(0)", x.lays(0), 0);
            DUE.is(wide + ": FRESH", x.of(0, 1), 60);
        }
        // one that is left out leaves its seat out, too: the others keep theirs
        NotedHouse y = withRow(1, 64, 10, 100, 20, -1, 30);
        y.sheet(0, 8, 0);
        for (int p = 0; p < 4; p++) {
            y.person(p);
        }
        DUE.is("an empty one: lays(0)", y.lays(0), 0);
        DUE.is("four people, five numbers: lays(1)", y.lays(1), 2);
        int[] fresh = {10, 60, 20, 60};
        for (int p = 0; p < 4; p++) {
            DUE.is("FRESH of " + p, y.of(p, 1), fresh[p]);
        }
        DUE.is("one who comes then", y.person(0), 4);
        DUE.is("is of 60", y.of(4, 1), 60);
        NotedHouse z = withRow(0, 8, upward(MOST_NUMBERS));
        DUE.is("nobody: lays(0)", z.lays(0), 0);
        for (int p = 0; p < 8; p++) {
            z.person(0);
        }
        DUE.is("eight people, forty numbers: lays(0)", z.lays(0), 8);
        DUE.is("FRESH of the last", z.of(7, 1), 8);
        rowIs("the sheet is left", z, 0, upward(MOST_NUMBERS));
    }

    private static void laysNoSuchSheet() {
        noSuchSheet("lays(%d)", NotedHouse::lays);
    }

    private static void laysMissing() {
        Refused.is(DUE, Refused::small, "lays(3)", Due.MISSING, x -> x.lays(3));
        Refused.is(DUE, NotedHouse::new, "new: lays(0)", Due.MISSING, x -> x.lays(0));
        NotedHouse x = withRow(0, 8, 1);
        x.person(0);
        x.sheet(0, 0, 1);
        DUE.is("MISSING again: lays(0)", x.lays(0), Due.MISSING);
        DUE.is("FRESH is left", x.of(0, 1), 60);
    }

    private static void books() {
        for (int bits : BITS) {
            NotedHouse x = Due.houseOf(Due.SITTER, Due.CLAQUE);
            lay(x, 0, bits);
            DUE.is("none: book(0, 0)", x.book(0, 0), 0);
            rowIs("none", x, 0);
            lay(x, 0, bits, 99);
            DUE.is("one: book(0, 0)", x.book(0, 0), 1);
            rowIs("one", x, 0, 0);
            x.moments(14);
            lay(x, 0, bits, 9, 9, 9, 9);
            x.play(0, 0, 3);
            DUE.is("over the night's end: book(0, 1)", x.book(0, 1), 4);
            // 14 asks a clap, 15 is one of its own; what was done in 15 is forgotten; it hears the cough of MOMENT 0
            rowIs("over the night's end", x, 0, 4, 4, 3, 3);
            DUE.is("nothing goes: now(1)", x.now(1), 14);
        }
        NotedHouse y = Due.houseOf(0, 0, 0, 0, 0, 0, 0, Due.SITTER);
        Due.playAll(y, 1, 5);
        y.set(7, 1, 9);
        y.sheet(2, 8, MOST_NUMBERS);
        DUE.is("forty: book(2, 7)", y.book(2, 7), 40);
        // 9, then 5, then 1: the third night it is too tired
        long[] want = new long[MOST_NUMBERS];
        for (int i = 0; i < 32; i++) {
            want[i] = 1;
        }
        rowIs("forty", y, 2, want);
        DUE.is("FRESH is left", y.of(7, 1), 9);
    }

    private static void bookMissing() {
        for (int person : new int[] {0, -1, 3, Integer.MAX_VALUE}) {
            Refused.is(DUE, Refused::small, "book(3, " + person + ")", Due.MISSING, x -> x.book(3, person));
        }
        Refused.is(DUE, NotedHouse::new, "new: book(0, 0)", Due.MISSING, x -> x.book(0, 0));
    }

    private static void bookNoSuchPerson() {
        Refused.outside(DUE, Refused::small, "book(2, %d)", 0, 2, (x, v) -> x.book(2, v));
        Refused.outside(DUE, Refused::full, "eight: book(0, %d)", 0, 7, (x, v) -> x.book(0, v));
        Refused.outside(DUE, () -> withRow(0, 8, 1), "nobody: book(0, %d)", 0, -1, (x, v) -> x.book(0, v));
        Refused.outside(DUE, () -> withRow(0, 8), "nobody, and none: book(0, %d)", 0, -1, (x, v) -> x.book(0, v));
    }

    private static void reads() {
        for (int bits : BITS) {
            NotedHouse x = Due.houseOf(Due.CLAQUE);
            lay(x, 0, bits);
            DUE.is("no numbers, all pairs: read(0, 0)", x.read(0, 0), 600);
            // at TENSE 1 a sob is asked: those of 0 are still, five kinds, and all sleepers
            x.play(0, 0, 1);
            x.play(0, 1, 1);
            lay(x, 0, bits, 0);
            DUE.is("still: read(0, 0)", x.read(0, 0), 100 + 5);
            lay(x, 0, bits, 1);
            DUE.is("a sob: read(0, 0)", x.read(0, 0), 5 * 99);
            for (int other : new int[] {2, 3, 4, 5, -1, 127, -128}) {
                lay(x, 0, bits, other);
                DUE.is(other + ": read(0, 0)", x.read(0, 0), 0);
            }
            DUE.is("KIND is left", x.of(0, 0), Due.CLAQUE);
            DUE.is("FRESH is left", x.of(0, 1), 60);
        }
        NotedHouse cut = withRow(0, 8, 257);
        cut.person(0);
        cut.play(0, 0, 1);
        cut.play(0, 1, 0);
        DUE.is("257 is 1 in 8 bits", cut.read(0, 0), 500);
        lay(cut, 0, 16, 257);
        DUE.is("257 is none in 16", cut.read(0, 0), 0);
        lay(cut, 0, 16, 65537);
        DUE.is("65537 is 1 in 16", cut.read(0, 0), 500);
        lay(cut, 0, 64, 65537);
        DUE.is("65537 is none in 64", cut.read(0, 0), 0);
        lay(cut, 0, 64, (1L << 32) + 1);
        DUE.is("nor is a greater one", cut.read(0, 0), 0);
        readsWhatWasBooked();
    }

    /** Forty numbers, booked of each kind: the last one counts as the first does. */
    private static void readsWhatWasBooked() {
        for (int kind = 0; kind < 6; kind++) {
            NotedHouse x = Due.houseOf(Due.COUGHER, kind, Due.WEEPER);
            x.moments(9);
            x.sheet(0, 8, MOST_NUMBERS);
            x.book(0, 1);
            int pairs = x.read(0, 1);
            DUE.holds("kind " + kind + " makes it so itself", pairs >= 1);
            long last = x.write(0, 39, 9);
            DUE.is("kind " + kind + ": its last number is no thing", x.read(0, 1), 0);
            x.write(0, 39, last);
            long first = x.write(0, 0, 9);
            DUE.is("kind " + kind + ": its first number is no thing", x.read(0, 1), 0);
            x.write(0, 0, first);
            DUE.is("kind " + kind + ": as it was", x.read(0, 1), pairs);
        }
    }

    private static void readMissing() {
        for (int person : new int[] {0, -1, 3, Integer.MAX_VALUE}) {
            Refused.is(DUE, Refused::small, "read(3, " + person + ")", Due.MISSING, x -> x.read(3, person));
        }
        Refused.is(DUE, NotedHouse::new, "new: read(0, 0)", Due.MISSING, x -> x.read(0, 0));
    }

    private static void readNoSuchPerson() {
        Refused.outside(DUE, Refused::small, "read(0, %d)", 0, 2, (x, v) -> x.read(0, v));
        Refused.outside(DUE, Refused::full, "eight: read(0, %d)", 0, 7, (x, v) -> x.read(0, v));
        Refused.outside(DUE, () -> withRow(0, 8, 1), "nobody: read(0, %d)", 0, -1, (x, v) -> x.read(0, v));
        Refused.outside(DUE, () -> withRow(0, 8), "nobody, and none: read(0, %d)", 0, -1, (x, v) -> x.read(0, v));
    }
}
