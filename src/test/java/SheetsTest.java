/** Promises 28 to 33: sheet, write, copy, lays, book, read. */
public final class SheetsTest {
    private static final Due DUE = new Due();

    public static void main(String[] args) {
        sheetsAreLaidOut();
        sheetRefuses();
        writesKeepLowestBits();
        writeRefuses();
        copies();
        copiesWithinOne();
        copyRefuses();
        laysFresh();
        booksWhatOneDoes();
        readsPairs();
        bookAndReadRefuse();
        DUE.end();
    }

    private static void sheetsAreLaidOut() {
        NotedHouse x = new NotedHouse();
        int[] bits = {8, 16, 64, 8};
        int[] sizes = {1, 40, 3, 0};
        for (int s = 0; s < 4; s++) {
            DUE.is("sheet " + s, x.sheet(s, bits[s], sizes[s]), sizes[s]);
        }
        for (int s = 0; s < 4; s++) {
            for (int i = 0; i < sizes[s]; i++) {
                DUE.is("new: number " + i + " of " + s, x.write(s, i, i + 1), 0);
            }
            DUE.is("behind the last of " + s, x.write(s, sizes[s], 0), Due.BEYOND);
        }
        DUE.is("laid out again", x.sheet(1, 16, 2), 2);
        DUE.is("all 0 again", x.write(1, 1, 7), 0);
        DUE.is("and shorter", x.write(1, 2, 7), Due.BEYOND);
        DUE.is("and longer", x.sheet(1, 16, 40), 40);
        DUE.is("all 0 again at the end", x.write(1, 39, 7), 0);
        DUE.is("all 0 again at the start", x.write(1, 1, 7), 0);
        DUE.is("another is left", x.write(2, 2, 0), 3);
        DUE.is("bits 0", x.sheet(1, 0, 40), 0);
        DUE.is("it is MISSING", x.write(1, 0, 0), Due.MISSING);
        DUE.is("bits 0 of a MISSING one", x.sheet(1, 0, 0), 0);
        DUE.is("there again", x.sheet(1, 64, 1), 1);
        DUE.is("and 0", x.write(1, 0, 5), 0);
    }

    private static void sheetRefuses() {
        NotedHouse x = new NotedHouse();
        for (int bits : new int[] {0, 8, 16, 64}) {
            DUE.is("sheet(-1, " + bits + ", 1)", x.sheet(-1, bits, 1), Due.BEYOND);
            DUE.is("sheet(4, " + bits + ", -1)", x.sheet(4, bits, -1), Due.BEYOND);
            DUE.is("sheet(0, " + bits + ", -1)", x.sheet(0, bits, -1), Due.SIZE);
            DUE.is("sheet(0, " + bits + ", least)", x.sheet(0, bits, Integer.MIN_VALUE), Due.SIZE);
            DUE.is("sheet(0, " + bits + ", 41)", x.sheet(0, bits, 41), Due.BEYOND);
            DUE.is("sheet(0, " + bits + ", most)", x.sheet(0, bits, Integer.MAX_VALUE), Due.BEYOND);
        }
        DUE.is("status(0)", x.status(0), 16);
        DUE.is("status(6)", x.status(6), 8);
        for (int bits : new int[] {-1, 1, 7, 9, 15, 17, 32, 63, 65, -8, Integer.MIN_VALUE, Integer.MAX_VALUE}) {
            DUE.is("sheet(0, " + bits + ", 1)", x.sheet(0, bits, 1), Due.BEYOND);
            DUE.is("sheet(0, " + bits + ", -1), BEYOND first", x.sheet(0, bits, -1), Due.BEYOND);
        }
        DUE.is("it is MISSING as it was", x.lays(0), Due.MISSING);
        x.sheet(0, 8, 3);
        x.write(0, 1, 9);
        x.sheet(0, 0, -1);
        x.sheet(0, 0, 41);
        x.sheet(0, 16, 41);
        DUE.is("one that is there is left", x.write(0, 1, 0), 9);
    }

    private static void writesKeepLowestBits() {
        long[] written = {0, 1, 127, 128, 200, 255, 256, 257, -1, -128, -129, 32767, 32768, 65535, 65536, -32769,
            0x123456789abcdef0L, Long.MIN_VALUE, Long.MAX_VALUE, -1000000001L};
        int[] bits = {8, 16, 64};
        for (int s = 0; s < 3; s++) {
            NotedHouse x = new NotedHouse();
            x.sheet(s, bits[s], 2);
            for (long v : written) {
                x.write(s, 1, v);
                long want = s == 0 ? (byte) v : s == 1 ? (short) v : v;
                DUE.is(v + " in " + bits[s] + " bits", x.write(s, 1, 0), want);
                DUE.is("the one beside", x.write(s, 0, 0), 0);
            }
        }
    }

    private static void writeRefuses() {
        NotedHouse x = new NotedHouse();
        x.sheet(1, 64, 2);
        DUE.is("write(-1, 0, 0)", x.write(-1, 0, 0), Due.BEYOND);
        DUE.is("write(4, 0, 0)", x.write(4, 0, 0), Due.BEYOND);
        DUE.is("write(4, -1, 0)", x.write(4, -1, 0), Due.BEYOND);
        DUE.is("write(0, 0, 0)", x.write(0, 0, 0), Due.MISSING);
        DUE.is("write(0, -1, 0), MISSING first", x.write(0, -1, 0), Due.MISSING);
        DUE.is("write(1, -1, 0)", x.write(1, -1, 0), Due.BEYOND);
        DUE.is("write(1, 2, 0)", x.write(1, 2, 0), Due.BEYOND);
        DUE.is("write(1, least, 0)", x.write(1, Integer.MIN_VALUE, 0), Due.BEYOND);
        DUE.is("write(1, most, 0)", x.write(1, Integer.MAX_VALUE, 0), Due.BEYOND);
        DUE.is("write(least, 0, 0)", x.write(Integer.MIN_VALUE, 0, 0), Due.BEYOND);
        DUE.is("status(0)", x.status(0), 8);
        DUE.is("status(5)", x.status(5), 2);
    }

    private static NotedHouse withRow(int s, int bits, int... row) {
        NotedHouse x = new NotedHouse();
        x.sheet(s, bits, row.length);
        for (int i = 0; i < row.length; i++) {
            x.write(s, i, row[i]);
        }
        return x;
    }

    /** Reads the row; each number becomes 0 by that. */
    private static void rowIs(String what, NotedHouse x, int s, int... want) {
        for (int i = 0; i < want.length; i++) {
            DUE.is(what + ": number " + i, x.write(s, i, 0), want[i]);
        }
        DUE.is(what + ": no more", x.write(s, want.length, 0), Due.BEYOND);
    }

    private static void copies() {
        for (int bits : new int[] {8, 16, 64}) {
            NotedHouse x = withRow(0, bits, 1, 2, 3, 4, -5);
            x.sheet(3, bits, 4);
            DUE.is("copy(0, 1, 3, 2, 2)", x.copy(0, 1, 3, 2, 2), 2);
            DUE.is("copy(0, 4, 3, 0, 1)", x.copy(0, 4, 3, 0, 1), 1);
            DUE.is("copy(0, 5, 3, 4, 0)", x.copy(0, 5, 3, 4, 0), 0);
            DUE.is("copy(0, 0, 3, 0, 0)", x.copy(0, 0, 3, 0, 0), 0);
            rowIs("copied", x, 3, -5, 0, 2, 3);
            rowIs("copied from", x, 0, 1, 2, 3, 4, -5);
        }
        NotedHouse x = withRow(2, 16, 1, 2, 3);
        x.sheet(1, 16, 3);
        DUE.is("all of it", x.copy(2, 0, 1, 0, 3), 3);
        x.write(2, 0, 9);
        rowIs("a copy is apart", x, 1, 1, 2, 3);
    }

    private static void copiesWithinOne() {
        NotedHouse x = withRow(1, 8, 1, 2, 3, 4, 5);
        DUE.is("up", x.copy(1, 0, 1, 1, 4), 4);
        rowIs("up", x, 1, 1, 1, 2, 3, 4);
        NotedHouse y = withRow(1, 64, 1, 2, 3, 4, 5);
        DUE.is("down", y.copy(1, 1, 1, 0, 4), 4);
        rowIs("down", y, 1, 2, 3, 4, 5, 5);
        NotedHouse z = withRow(1, 16, 1, 2, 3);
        DUE.is("onto itself", z.copy(1, 0, 1, 0, 3), 3);
        rowIs("onto itself", z, 1, 1, 2, 3);
    }

    private static void copyRefuses() {
        NotedHouse x = withRow(0, 8, 1, 2, 3);
        x.sheet(1, 16, 3);
        x.sheet(2, 8, 5);
        int most = Integer.MAX_VALUE;
        int least = Integer.MIN_VALUE;
        int[][] bad = {{-1, 0, 0, 0, 0}, {4, 0, 0, 0, 0}, {0, 0, -1, 0, 0}, {0, 0, 4, 0, 0}, {4, 0, 3, 0, 0},
            {3, 0, 4, 0, 0}, {0, 0, 2, 0, 4}, {2, 0, 0, 0, 4}, {0, 1, 2, 0, 3}, {0, 0, 0, 1, 3}, {0, 4, 2, 0, 0},
            {0, 0, 2, 6, 0}, {0, -1, 2, 0, 1}, {0, 0, 2, -1, 1}, {0, 0, 2, 0, -1}, {0, most, 2, 0, 1},
            {0, 0, 2, most, 1}, {0, 0, 2, 0, most}, {0, most, 2, most, most}, {0, 1, 2, 1, most},
            {0, least, 2, 0, 0}, {0, 0, 2, least, 0}, {0, 0, 2, 0, least}, {0, 3, 2, 0, -1}, {0, -1, 2, 0, 0}};
        for (int[] b : bad) {
            DUE.is("copy(" + b[0] + ", " + b[1] + ", " + b[2] + ", " + b[3] + ", " + b[4] + ")",
                x.copy(b[0], b[1], b[2], b[3], b[4]), Due.BEYOND);
        }
        DUE.is("from a MISSING one", x.copy(3, 0, 0, 0, 0), Due.MISSING);
        DUE.is("to a MISSING one", x.copy(0, 0, 3, 0, 0), Due.MISSING);
        DUE.is("MISSING before numbers", x.copy(0, -1, 3, 0, 99), Due.MISSING);
        DUE.is("MISSING to itself", x.copy(3, 0, 3, 0, 0), Due.MISSING);
        DUE.is("of other bits", x.copy(0, 0, 1, 0, 1), Due.KIND);
        DUE.is("of other bits, none", x.copy(1, 0, 0, 0, 0), Due.KIND);
        DUE.is("KIND before numbers", x.copy(0, -1, 1, 99, -1), Due.KIND);
        DUE.is("status(0)", x.status(0), bad.length);
        DUE.is("status(5)", x.status(5), 4);
        DUE.is("status(2)", x.status(2), 3);
        rowIs("all is left", x, 0, 1, 2, 3);
        rowIs("all is left", x, 2, 0, 0, 0, 0, 0);
    }

    private static void laysFresh() {
        NotedHouse x = Due.houseOf(0, 1, 2, 3);
        x.sheet(0, 64, 6);
        long[] row = {99, 100, -1, 0, 50, 50};
        for (int i = 0; i < row.length; i++) {
            x.write(0, i, row[i]);
        }
        DUE.is("lays(0)", x.lays(0), 2);
        int[] fresh = {99, 60, 60, 0};
        for (int p = 0; p < 4; p++) {
            DUE.is("laid: FRESH of " + p, x.of(p, 1), fresh[p]);
        }
        x.write(0, 0, 1L << 32);
        x.write(0, 1, 3);
        x.write(0, 2, Long.MIN_VALUE);
        x.write(0, 3, (1L << 40) + 7);
        DUE.is("great numbers are left out", x.lays(0), 1);
        DUE.is("great numbers: FRESH of 0", x.of(0, 1), 99);
        DUE.is("great numbers: FRESH of 1", x.of(1, 1), 3);
        DUE.is("great numbers: FRESH of 3", x.of(3, 1), 0);
        x.sheet(1, 8, 2);
        x.write(1, 0, 12);
        x.write(1, 1, 200);
        DUE.is("a short one", x.lays(1), 1);
        DUE.is("a short one: FRESH of 0", x.of(0, 1), 12);
        DUE.is("a short one: FRESH of 1", x.of(1, 1), 3);
        x.sheet(1, 8, 0);
        DUE.is("an empty one", x.lays(1), 0);
        DUE.is("lays(2)", x.lays(2), Due.MISSING);
        DUE.is("lays(-1)", x.lays(-1), Due.BEYOND);
        DUE.is("lays(4)", x.lays(4), Due.BEYOND);
        DUE.is("lays(most)", x.lays(Integer.MAX_VALUE), Due.BEYOND);
        NotedHouse y = new NotedHouse();
        y.sheet(0, 16, 40);
        DUE.is("nobody: lays(0)", y.lays(0), 0);
    }

    private static void booksWhatOneDoes() {
        NotedHouse x = Due.houseOf(0, Due.CLAQUE);
        x.moments(3);
        x.sheet(2, 8, 14);
        DUE.is("book(2, 0)", x.book(2, 0), 14);
        rowIs("a sitter's", x, 2, 3, 4, 0, 1, 2, 3, 4, 0, 1, 2, 3, 4, 0, 0);
        x.sheet(2, 64, 6);
        DUE.is("book(2, 1)", x.book(2, 1), 6);
        // it coughs when the sitter beside it did, but a clap that is asked comes first
        rowIs("a claque's", x, 2, 3, 4, 0, 1, 4, 3);
        x.sheet(2, 16, 40);
        x.set(0, 1, 5);
        DUE.is("book(2, 0) over nights", x.book(2, 0), 40);
        int[] want = new int[40];
        for (int i = 0; i < 13; i++) {
            want[i] = (i + 3) % 5;
        }
        rowIs("tired behind the night", x, 2, want);
        x.sheet(2, 8, 0);
        DUE.is("an empty one", x.book(2, 0), 0);
        DUE.is("nothing has changed", x.now(1), 3);
    }

    private static void readsPairs() {
        NotedHouse x = Due.houseOf(0);
        x.sheet(0, 8, 0);
        DUE.is("all pairs make nothing", x.read(0, 0), 600);
        x.sheet(0, 8, 1);
        // stillness is asked: not weepers and widows of 40 and more
        DUE.is("still: read(0, 0)", x.read(0, 0), 4 * 100 + 2 * 40);
        x.write(0, 0, 1);
        DUE.is("a sob: read(0, 0)", x.read(0, 0), 2 * 60);
        x.write(0, 0, 3);
        DUE.is("a cough: read(0, 0)", x.read(0, 0), 0);
        x.play(0, 0, 4);
        x.write(0, 0, 4);
        // sitters and coughers of 5 and more, weepers and widows of 5 to 39, all claques
        DUE.is("a clap: read(0, 0)", x.read(0, 0), 2 * 95 + 2 * 35 + 100);
        x.write(0, 0, 0);
        // sitters, coughers, weepers, widows below 5, all sleepers
        DUE.is("still, a clap being asked: read(0, 0)", x.read(0, 0), 4 * 5 + 100);
        x.person(0);
        x.set(1, 3, 3);
        x.write(0, 0, 3);
        DUE.is("beside a cough: read(0, 0)", x.read(0, 0), 100);
        x.set(1, 3, 1);
        x.write(0, 0, 1);
        DUE.is("beside a sob: read(0, 0)", x.read(0, 0), 60 + 100);
        x.sheet(1, 64, 1);
        x.write(1, 0, 1L << 32 | 1);
        DUE.is("a great number: read(1, 0)", x.read(1, 0), 0);
        x.write(1, 0, 5);
        DUE.is("no thing: read(1, 0)", x.read(1, 0), 0);
        DUE.is("its KIND is left", x.of(0, 0), 0);
        DUE.is("its FRESH is left", x.of(0, 1), 60);
        readsNights();
    }

    private static void readsNights() {
        NotedHouse x = Due.houseOf(0);
        Due.playAll(x, 2, 20);
        x.sheet(0, 8, 40);
        for (int i = 0; i < 32; i++) {
            x.write(0, i, 2);
        }
        x.play(7, 0, 4);
        x.play(15, 0, 4);
        for (int i = 7; i < 32; i += 8) {
            x.write(0, i, 4);
        }
        // 20 and more in the second night and less in the third: sitters of 24 to 27, coughers of 23 to 25,
        // weepers of 28 to 35, widows of 25 to 29; a claque stays as it is, and claps in the third
        DUE.is("two nights and a half", x.read(0, 0), 4 + 3 + 8 + 5);
        x.write(0, 39, 4);
        DUE.is("its last number, too", x.read(0, 0), 0);
    }

    private static void bookAndReadRefuse() {
        NotedHouse x = Due.houseOf(0);
        x.sheet(0, 8, 2);
        x.write(0, 0, 77);
        int[][] bad = {{-1, 0}, {4, 0}, {4, 9}, {0, -1}, {0, 1}, {Integer.MIN_VALUE, 0}, {0, Integer.MAX_VALUE}};
        for (int[] b : bad) {
            DUE.is("book(" + b[0] + ", " + b[1] + ")", x.book(b[0], b[1]), Due.BEYOND);
            DUE.is("read(" + b[0] + ", " + b[1] + ")", x.read(b[0], b[1]), Due.BEYOND);
        }
        DUE.is("book(1, 0)", x.book(1, 0), Due.MISSING);
        DUE.is("read(1, 0)", x.read(1, 0), Due.MISSING);
        DUE.is("book(1, 9), MISSING first", x.book(1, 9), Due.MISSING);
        DUE.is("read(1, 9), MISSING first", x.read(1, 9), Due.MISSING);
        DUE.is("status(0)", x.status(0), 2 * bad.length);
        DUE.is("status(5)", x.status(5), 4);
        rowIs("it is left", x, 0, 77, 0);
    }
}
