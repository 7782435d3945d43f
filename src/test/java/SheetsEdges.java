/** The edges of promises 29 to 34: sheet, write, copy, lays, book, read. */
final class SheetsEdges {
    private static final int[] WIDTHS = {8, 16, 64};

    private SheetsEdges() {
    }

    static void run() {
        sheet();
        sheetMissing();
        sheetFindings();
        write();
        writeFindings();
        copy();
        copyFindings();
        copyBeyond();
        lays();
        book();
        bookOfABusyStore();
        read();
        readNotSo();
    }

    private static void numbersAre(String what, RopeEnds x, int s, long... due) {
        for (int i = 0; i < due.length; i++) {
            Due.is(what + ": number " + i, x.write(s, i, due[i]), due[i]);
        }
        Due.is(what + ": no more", x.write(s, due.length, 0), Due.BEYOND);
    }

    private static void sheet() {
        Doc.says(29, "A sheet has n numbers, all 0, of 8, 16 or 64 bits;");
        for (int bits : WIDTHS) {
            RopeEnds x = new RopeEnds();
            Due.is("no number of " + bits, x.sheet(0, bits, 0), 0);
            Due.is("it isn't missing", x.read(0), 0);
            Due.is("but has none", x.write(0, 0, 1), Due.BEYOND);
            Due.is("one of " + bits, x.sheet(0, bits, 1), 1);
            numbersAre("one of " + bits, x, 0, 0);
            Due.is("40 of " + bits, x.sheet(0, bits, 40), 40);
            for (int i = 0; i < 40; i++) {
                Due.is("0 at first", x.write(0, i, -1), 0);
            }
            Due.is("anew", x.sheet(0, bits, 3), 3);
            numbersAre("0 anew", x, 0, 0, 0, 0);
            x.write(0, 2, 7);
            Due.is("as large again", x.sheet(0, bits, 40), 40);
            for (int i = 0; i < 40; i++) {
                Due.is("0 again", x.write(0, i, 0), 0);
            }
        }
        RopeEnds x = new RopeEnds();
        for (int s = 0; s <= 3; s++) {
            Due.is("sheet " + s, x.sheet(s, 16, s + 1), s + 1);
            x.write(s, s, 100 + s);
        }
        for (int s = 0; s <= 3; s++) {
            Due.is("each is its own", x.write(s, s, 0), 100 + s);
        }
    }

    private static void sheetMissing() {
        Doc.says(29, "bits 0: it is MISSING: n (0 if it is MISSING).");
        for (int n : new int[] {0, 1, 40}) {
            RopeEnds x = Stores.busy();
            Due.is("bits 0, n " + n, x.sheet(0, 0, n), 0);
            Due.is("it is missing", x.write(0, 0, 0), Due.MISSING);
            Due.is("the next one isn't", x.write(1, 0, 1000), 1000);
            Due.is("one that was missing", x.sheet(3, 0, n), 0);
            Due.is("there again", x.sheet(0, 8, 3), 3);
            numbersAre("all 0", x, 0, 0, 0, 0);
        }
    }

    private static void sheetFindings() {
        Doc.says(29, "BEYOND: no such sheet, other bits.");
        for (int s : Stores.beside(0, 3)) {
            Twin.refuses("sheet " + s, Stores::busy, x -> x.sheet(s, 8, 1), Due.BEYOND);
            Twin.refuses("sheet " + s + " of size -1", Stores::busy, x -> x.sheet(s, 8, -1), Due.BEYOND);
        }
        for (int bits : new int[] {-1, 1, 7, 9, 15, 17, 32, 63, 65, 256, -8, -64, Stores.MIN, Stores.MAX}) {
            Twin.refuses("bits " + bits, Stores::busy, x -> x.sheet(0, bits, 1), Due.BEYOND);
            Twin.refuses("bits " + bits + " of size -1", Stores::busy, x -> x.sheet(0, bits, -1), Due.BEYOND);
        }
        Doc.says(29, "SIZE: n is below 0 (also with bits 0).");
        for (int bits : new int[] {0, 8, 16, 64}) {
            Twin.refuses("-1 of " + bits, Stores::busy, x -> x.sheet(0, bits, -1), Due.SIZE);
            Twin.refuses("MIN of " + bits, Stores::busy, x -> x.sheet(0, bits, Stores.MIN), Due.SIZE);
        }
        Doc.says(29, "BEYOND: n is above 40 (also with bits 0).");
        for (int bits : new int[] {0, 8, 16, 64}) {
            Twin.refuses("41 of " + bits, Stores::busy, x -> x.sheet(0, bits, 41), Due.BEYOND);
            Twin.refuses("MAX of " + bits, Stores::busy, x -> x.sheet(0, bits, Stores.MAX), Due.BEYOND);
        }
    }

    /** What is left of a number in a sheet of so many bits. */
    private static long kept(int bits, long v) {
        RopeEnds x = new RopeEnds();
        x.sheet(0, bits, 40);
        x.write(0, 39, v);
        return x.write(0, 39, 0);
    }

    private static void write() {
        Doc.says(30, "Number i of a sheet becomes v (its lowest bits): what it was.");
        RopeEnds x = Stores.busy();
        Due.is("the first", x.write(0, 0, 6), 5);
        Due.is("what it became", x.write(0, 0, 5), 6);
        Due.is("the last", x.write(0, 2, 7), 7);
        Twin.alike("there and back", x, Stores.busy());
        long[][] of8 = {{127, 127}, {128, -128}, {255, -1}, {256, 0}, {-128, -128}, {-129, 127}, {1L << 32 | 5, 5},
            {Long.MIN_VALUE, 0}, {Long.MAX_VALUE, -1}};
        long[][] of16 = {{32767, 32767}, {32768, -32768}, {65535, -1}, {65536, 0}, {-32768, -32768}, {-32769, 32767},
            {1L << 32 | 5, 5}, {Long.MIN_VALUE, 0}, {Long.MAX_VALUE, -1}};
        long[][] of64 = {{1L << 32 | 5, 1L << 32 | 5}, {Long.MIN_VALUE, Long.MIN_VALUE}, {Long.MAX_VALUE, Long.MAX_VALUE},
            {-1, -1}, {Due.BEYOND, Due.BEYOND}, {Due.SIZE, Due.SIZE}};
        long[][][] all = {of8, of16, of64};
        for (int w = 0; w < 3; w++) {
            for (long[] row : all[w]) {
                Due.is(row[0] + " in " + WIDTHS[w] + " bits", kept(WIDTHS[w], row[0]), row[1]);
            }
        }
        RopeEnds y = new RopeEnds();
        y.sheet(0, 64, 1);
        y.write(0, 0, Due.MISSING);
        Due.is("a number that looks like a finding", y.write(0, 0, 0), Due.MISSING);
        Due.is("is none", y.status(-1), 0);
    }

    private static void writeFindings() {
        Doc.says(30, "BEYOND: no such sheet.");
        for (int s : Stores.beside(0, 3)) {
            Twin.refuses("sheet " + s, Stores::busy, x -> x.write(s, 0, 9), Due.BEYOND);
        }
        Doc.says(30, "MISSING.");
        for (int i : new int[] {0, -1, 40, Stores.MIN, Stores.MAX}) {
            Twin.refuses("number " + i, Stores::busy, x -> x.write(3, i, 9), Due.MISSING);
        }
        Doc.says(30, "BEYOND: no such number.");
        for (int i : new int[] {-1, 3, 4, 39, 40, 41, 256, Stores.MIN, Stores.MAX}) {
            Twin.refuses("number " + i + " of 3", Stores::busy, x -> x.write(0, i, 9), Due.BEYOND);
        }
        for (int i : new int[] {-1, 1}) {
            Twin.refuses("number " + i + " of 1", Stores::busy, x -> x.write(2, i, 9), Due.BEYOND);
        }
        RopeEnds x = new RopeEnds();
        x.sheet(0, 8, 40);
        Due.is("number 39 of 40", x.write(0, 39, 9), 0);
        Due.is("number 40 of 40", x.write(0, 40, 9), Due.BEYOND);
        x.sheet(0, 8, 0);
        Due.is("number 0 of none", x.write(0, 0, 9), Due.BEYOND);
    }

    private static RopeEnds alphabet() {
        RopeEnds x = new RopeEnds();
        Due.sheet(x, 0, 8, 1, 2, 3, 4, 5);
        Due.sheet(x, 1, 8, 6, 7, 8);
        Due.sheet(x, 2, 16, 9, 10, 11);
        return x;
    }

    private static void copy() {
        Doc.says(31, "n numbers of a sheet from one on come to another one from one on (as they all were): n.");
        RopeEnds x = alphabet();
        Due.is("the last two", x.copy(0, 3, 1, 1, 2), 2);
        numbersAre("to", x, 1, 6, 4, 5);
        numbersAre("from", x, 0, 1, 2, 3, 4, 5);
        RopeEnds up = alphabet();
        Due.is("upwards in one", up.copy(0, 0, 0, 1, 4), 4);
        numbersAre("upwards", up, 0, 1, 1, 2, 3, 4);
        RopeEnds down = alphabet();
        Due.is("downwards in one", down.copy(0, 1, 0, 0, 4), 4);
        numbersAre("downwards", down, 0, 2, 3, 4, 5, 5);
        Twin.tells("onto itself", SheetsEdges::alphabet, y -> y.copy(0, 0, 0, 0, 5), 5);
        Twin.tells("none", SheetsEdges::alphabet, y -> y.copy(0, 0, 1, 0, 0), 0);
        Twin.tells("none at both ends", SheetsEdges::alphabet, y -> y.copy(0, 5, 1, 3, 0), 0);
        RopeEnds whole = alphabet();
        Due.is("a whole sheet", whole.copy(1, 0, 0, 2, 3), 3);
        numbersAre("a whole sheet", whole, 0, 1, 2, 6, 7, 8);
        RopeEnds wide = new RopeEnds();
        wide.sheet(2, 64, 40);
        wide.sheet(3, 64, 40);
        wide.write(2, 39, Stores.BIG);
        Due.is("all 40", wide.copy(2, 0, 3, 0, 40), 40);
        Due.is("the last of 64 bits", wide.write(3, 39, 0), Stores.BIG);
    }

    private static void copyFindings() {
        Doc.says(31, "BEYOND: no such sheet (either).");
        for (int s : Stores.beside(0, 3)) {
            Twin.refuses("from sheet " + s, Stores::busy, x -> x.copy(s, 0, 0, 0, 1), Due.BEYOND);
            Twin.refuses("to sheet " + s, Stores::busy, x -> x.copy(0, 0, s, 0, 1), Due.BEYOND);
            Twin.refuses("from a missing one to sheet " + s, Stores::busy, x -> x.copy(3, 0, s, 0, 1), Due.BEYOND);
            Twin.refuses("from sheet " + s + " to a missing one", Stores::busy, x -> x.copy(s, 0, 3, 0, 1), Due.BEYOND);
        }
        Doc.says(31, "MISSING: one is.");
        for (int n : new int[] {0, 1, -1, 41}) {
            Twin.refuses("from a missing one " + n, Stores::busy, x -> x.copy(3, 0, 0, 0, n), Due.MISSING);
            Twin.refuses("to a missing one " + n, Stores::busy, x -> x.copy(0, 0, 3, 0, n), Due.MISSING);
            Twin.refuses("from it to itself " + n, Stores::busy, x -> x.copy(3, 0, 3, 0, n), Due.MISSING);
        }
        Doc.says(31, "KIND: they are not of as many bits.");
        for (int n : new int[] {0, 1, -1, 41}) {
            Twin.refuses("8 to 16: " + n, Stores::busy, x -> x.copy(0, 0, 1, 0, n), Due.KIND);
            Twin.refuses("16 to 8: " + n, Stores::busy, x -> x.copy(1, 0, 0, 0, n), Due.KIND);
            Twin.refuses("8 to 64: " + n, Stores::busy, x -> x.copy(0, 0, 2, 0, n), Due.KIND);
            Twin.refuses("64 to 16: " + n, Stores::busy, x -> x.copy(2, 0, 1, 0, n), Due.KIND);
        }
    }

    private static void copyBeyond() {
        Doc.says(31, "BEYOND: one has not so many, or from, to or n is below 0.");
        int max = Stores.MAX;
        int min = Stores.MIN;
        // From a sheet of 5 to one of 3: from, to, n.
        int[][] wrong = {{3, 0, 3}, {0, 1, 3}, {0, 0, 4}, {0, 0, 6}, {5, 0, 1}, {0, 3, 1}, {6, 0, 0}, {0, 4, 0},
            {-1, 0, 1}, {0, -1, 1}, {0, 0, -1}, {-1, 0, 0}, {0, -1, 0}, {-1, -1, -1}, {1, 1, -1}, {5, 3, -1},
            {max, 0, 0}, {0, max, 0}, {0, 0, max}, {max, 0, max}, {1, 1, max}, {max, max, 2}, {min, 0, 1}, {0, min, 1},
            {0, 0, min}, {min, min, min}, {max, 0, min}};
        for (int[] w : wrong) {
            String what = "from " + w[0] + " to " + w[1] + " of " + w[2];
            Twin.refuses(what, SheetsEdges::alphabet, x -> x.copy(0, w[0], 1, w[1], w[2]), Due.BEYOND);
        }
        int[][] right = {{2, 0, 3}, {0, 0, 3}, {4, 2, 1}, {0, 2, 1}, {5, 0, 0}, {0, 3, 0}};
        for (int[] r : right) {
            Due.is("from " + r[0] + " to " + r[1] + " of " + r[2], alphabet().copy(0, r[0], 1, r[1], r[2]), r[2]);
        }
    }

    private static void lays() {
        Doc.says(32, "Numbers of a sheet become LENGTHS of ROPES 0, 1, .. (those that aren't 1 to 999, or stand for none,"
            + " are left out): how many came.");
        RopeEnds x = Due.ropes(0, 1, 2, 3, 4, 5, 0, 0);
        Due.sheet(x, 0, 64, 1, 999, 0, 1000, -1, (1L << 32) + 7, Long.MIN_VALUE, 2, 3, 4);
        Due.is("three came", x.lays(0), 3);
        int[] due = {1, 999, 50, 50, 50, 50, 50, 2};
        for (int rope = 0; rope < 8; rope++) {
            Due.is("length of " + rope, x.of(rope, Due.LENGTH), due[rope]);
        }
        Due.sheet(x, 1, 8, 127, 128, 255, 0, 1);
        Due.is("of 8 bits", x.lays(1), 2);
        Due.is("127", x.of(0, Due.LENGTH), 127);
        Due.is("128 is below 0 there", x.of(1, Due.LENGTH), 999);
        Due.sheet(x, 2, 16, 1000, 998, 65535, 65537);
        Due.is("of 16 bits", x.lays(2), 2);
        Due.is("998", x.of(1, Due.LENGTH), 998);
        Due.is("65537 is 1 there", x.of(3, Due.LENGTH), 1);
        Twin.tells("of no number", SheetsEdges::withAnEmptySheet, y -> y.lays(3), 0);
        Twin.tells("for no rope", SheetsEdges::alphabet, y -> y.lays(0), 0);
        Due.is("two of the busy store's", Stores.busy().lays(0), 2);
        Doc.says(32, "BEYOND: no such sheet.");
        for (int s : Stores.beside(0, 3)) {
            Twin.refuses("sheet " + s, Stores::busy, y -> y.lays(s), Due.BEYOND);
        }
        Doc.says(32, "MISSING.");
        Twin.refuses("sheet 3", Stores::busy, y -> y.lays(3), Due.MISSING);
    }

    private static RopeEnds withAnEmptySheet() {
        RopeEnds x = Stores.busy();
        x.sheet(3, 8, 0);
        return x;
    }

    private static void book() {
        Doc.says(33, "A book: how many one KNOWS ON 0, 1, 2, .. HOURS comes to a sheet, as many as it has numbers: how many.");
        for (int bits : WIDTHS) {
            RopeEnds x = Due.ropes(0, 0, 0);
            x.gale(1);
            x.sheet(0, bits, 4);
            String before = Due.all(x);
            Due.is("four", x.book(0, 2), 4);
            Due.isSo("no hour goes", before.equals(Due.all(x)));
            numbersAre("2's book", x, 0, 0, 0, 1, 2);
            x.sheet(0, bits, 1);
            Due.is("one", x.book(0, 0), 1);
            numbersAre("0's book", x, 0, 0);
        }
        Twin.tells("no number", SheetsEdges::withAnEmptySheet, y -> y.book(3, 0), 0);
        RopeEnds y = Stores.at(19, Due.ROPE, Due.ROPE);
        y.set(1, Due.FIBRE, 1);
        y.gale(1);
        y.sheet(3, 8, 40);
        Due.is("forty", y.book(3, 1), 40);
        for (int i = 0; i < 40; i++) {
            Due.is("on " + i + " hours", y.write(3, i, 0), i >= 2 && i <= 11 ? 1 : 0);
        }
    }

    private static void bookOfABusyStore() {
        RopeEnds x = Stores.busy();
        RopeEnds y = Stores.busy();
        x.book(0, 1);
        Due.sheet(y, 0, 8, 3, 3, 3);
        Twin.alike("nothing but the sheet changes", x, y);
        Doc.says(33, "BEYOND: no such sheet.");
        for (int s : Stores.beside(0, 3)) {
            Twin.refuses("sheet " + s, Stores::busy, z -> z.book(s, 0), Due.BEYOND);
        }
        Doc.says(33, "MISSING.");
        Twin.refuses("a rope that is", Stores::busy, z -> z.book(3, 0), Due.MISSING);
        Twin.refuses("a rope that isn't", Stores::busy, z -> z.book(3, 6), Due.MISSING);
        Doc.says(33, "BEYOND: rope.");
        for (int none : Stores.noRopes(Stores.BUSY)) {
            Twin.refuses("rope " + none, Stores::busy, z -> z.book(0, none), Due.BEYOND);
        }
        Twin.refuses("on no number", SheetsEdges::withAnEmptySheet, z -> z.book(3, 6), Due.BEYOND);
    }

    /** 0, 1, 2 know each other in a row; 3 is a twine that knows all; a sheet tells of some. */
    private static RopeEnds reader(long... numbers) {
        RopeEnds x = Due.ropes(Due.ROPE, Due.BELL, Due.WARP, Due.TWINE);
        Due.store(x, "know 0 1; know 1 2; know 3 0; know 3 1; know 3 2");
        Due.sheet(x, 0, 64, numbers);
        return x;
    }

    private static void read() {
        Doc.says(34, "THE READER, a boy: numbers of a sheet are ropes of a LINE, one bent to the next one: 0 if so;");
        Twin.tells("no rope at all", () -> reader(), x -> x.read(0), 0);
        Twin.tells("the first one", () -> reader(0), x -> x.read(0), 0);
        Twin.tells("one twine", () -> reader(3), x -> x.read(0), 0);
        Twin.tells("all that bend", () -> reader(0, 1, 2), x -> x.read(0), 0);
        Twin.tells("back", () -> reader(2, 1, 0), x -> x.read(0), 0);
        RopeEnds all = Due.ropes(0, 0, 0, 0, 0, 0, 0, 0);
        all.gale(1);
        Due.sheet(all, 3, 8, 7, 0, 6, 1, 5, 2, 4, 3);
        Due.is("all eight, in a gale, at night", all.read(3), 0);
        all.gale(0);
        Due.is("in a calm", all.read(3), 2);
        Due.is("no finding", all.status(-1), 0);
    }

    private static void readNotSo() {
        Doc.says(34, "else 1 and the place of the first that isn't so (that is none, was there,"
            + " or to which the one ahead doesn't BEND).");
        long[][] rows = {{4}, {-1}, {Long.MIN_VALUE}, {1L << 32}, {32}, {0, 4}, {0, -1}, {0, 1, 1L << 33},
            {0, 0}, {0, 1, 0}, {0, 1, 1}, {0, 1, 2, 1}, {0, 2}, {0, 1, 3}, {3, 0}, {1, 0, 2}, {0, 2, 4}, {4, 4}};
        int[] due = {1, 1, 1, 1, 1, 2, 2, 3, 2, 3, 3, 4, 2, 3, 2, 3, 2, 1};
        for (int i = 0; i < rows.length; i++) {
            long[] row = rows[i];
            Twin.tells("row " + i, () -> reader(row), x -> x.read(0), due[i]);
        }
        RopeEnds x = Due.ropes(0, 0, 0, 0, 0, 0, 0, 0);
        x.gale(1);
        Due.sheet(x, 0, 16, 0, 1, 2, 3, 4, 5, 6, 7, 0);
        Due.is("a ninth was there", x.read(0), 9);
        Due.sheet(x, 0, 16, 0, 1, 2, 3, 4, 5, 6, 7, 8);
        Due.is("a ninth is none", x.read(0), 9);
        Due.sheet(x, 0, 8, 256, 255);
        Due.is("256 is 0 in 8 bits, 255 below", x.read(0), 2);
        Due.is("of no rope", alphabet().read(0), 1);
        Doc.says(34, "BEYOND: no such sheet.");
        for (int s : Stores.beside(0, 3)) {
            Twin.refuses("sheet " + s, Stores::busy, y -> y.read(s), Due.BEYOND);
        }
        Doc.says(34, "MISSING.");
        Twin.refuses("sheet 3", Stores::busy, y -> y.read(3), Due.MISSING);
    }
}
