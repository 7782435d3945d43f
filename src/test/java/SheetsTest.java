/** Promises 29 to 34: sheet, write, copy, lays, book, read. */
public final class SheetsTest {
    private static final long BIG = 0x123456789ABCDEF0L;

    public static void main(String[] args) {
        sheet();
        sheetFindings();
        write();
        writeFindings();
        copy();
        copyFindings();
        lays();
        book();
        bookGoesOn();
        read();
        readBending();
        sheetsOnTheirOwn();
        Due.end();
    }

    private static void sheet() {
        RopeEnds x = new RopeEnds();
        for (int bits : new int[] {8, 16, 64}) {
            Due.is("none of " + bits, x.sheet(3, bits, 0), 0);
            Due.is("is there", x.read(3), 0);
            Due.is("40 of " + bits, x.sheet(3, bits, 40), 40);
            for (int i = 0; i < 40; i++) {
                Due.is("all 0", x.write(3, i, 7), 0);
            }
            Due.is("made again", x.sheet(3, bits, 40), 40);
            for (int i = 0; i < 40; i++) {
                Due.is("all 0 again", x.write(3, i, 7), 0);
            }
            Due.is("fewer", x.sheet(3, bits, 3), 3);
            Due.is("the last", x.write(3, 2, 5), 0);
            Due.is("no more", x.write(3, 3, 5), Due.BEYOND);
            Due.is("missing", x.sheet(3, 0, 40), 0);
            Due.is("it is", x.write(3, 0, 5), Due.MISSING);
            x = new RopeEnds();
        }
        Due.is("missing, and nothing", x.sheet(0, 0, 0), 0);
    }

    private static void sheetFindings() {
        RopeEnds x = new RopeEnds();
        Due.sheet(x, 0, 8, 5);
        Due.is("sheet -1", x.sheet(-1, 8, 1), Due.BEYOND);
        Due.is("sheet 4", x.sheet(4, 8, 1), Due.BEYOND);
        Due.is("sheet MIN", x.sheet(Integer.MIN_VALUE, 8, 1), Due.BEYOND);
        for (int bits : new int[] {1, 7, 9, 15, 17, 32, 63, 65, -8, Integer.MIN_VALUE}) {
            Due.is("bits " + bits, x.sheet(0, bits, 1), Due.BEYOND);
            Due.is("bits ahead of size " + bits, x.sheet(0, bits, -1), Due.BEYOND);
        }
        Due.is("sheet ahead of size", x.sheet(4, 8, -1), Due.BEYOND);
        for (int bits : new int[] {0, 8, 16, 64}) {
            Due.is("n -1", x.sheet(0, bits, -1), Due.SIZE);
            Due.is("n MIN", x.sheet(0, bits, Integer.MIN_VALUE), Due.SIZE);
            Due.is("n 41", x.sheet(0, bits, 41), Due.BEYOND);
            Due.is("n MAX", x.sheet(0, bits, Integer.MAX_VALUE), Due.BEYOND);
        }
        Due.is("the sheet is left", x.write(0, 0, 5), 5);
        Due.is("sizes told", x.status(6), 8);
    }

    private static void write() {
        RopeEnds x = new RopeEnds();
        x.sheet(0, 8, 2);
        x.sheet(1, 16, 2);
        x.sheet(2, 64, 2);
        for (int s = 0; s < 3; s++) {
            Due.is("first", x.write(s, 1, BIG), 0);
            Due.is("its neighbour", x.write(s, 0, 3), 0);
        }
        Due.is("8 bits", x.write(0, 1, 127), (byte) 0xF0);
        Due.is("127", x.write(0, 1, 128), 127);
        Due.is("128 has a sign", x.write(0, 1, -1), -128);
        Due.is("-1", x.write(0, 1, 256), -1);
        Due.is("256", x.write(0, 1, 0), 0);
        Due.is("16 bits", x.write(1, 1, 32767), (short) 0xDEF0);
        Due.is("32767", x.write(1, 1, 32768), 32767);
        Due.is("32768 has a sign", x.write(1, 1, -1), -32768);
        Due.is("-1 of 16", x.write(1, 1, 65536), -1);
        Due.is("65536", x.write(1, 1, 0), 0);
        Due.is("64 bits", x.write(2, 1, Long.MIN_VALUE), BIG);
        Due.is("MIN", x.write(2, 1, Due.BEYOND), Long.MIN_VALUE);
        Due.is("what looks like a finding", x.write(2, 1, 0), Due.BEYOND);
        Due.is("is none", x.status(-1), 0);
        Due.is("the neighbour is left", x.write(2, 0, 0), 3);
    }

    private static void writeFindings() {
        RopeEnds x = new RopeEnds();
        Due.is("sheet -1", x.write(-1, 0, 0), Due.BEYOND);
        Due.is("sheet 4", x.write(4, 0, 0), Due.BEYOND);
        Due.is("missing", x.write(0, 0, 0), Due.MISSING);
        Due.is("missing ahead of the number", x.write(0, -1, 0), Due.MISSING);
        x.sheet(0, 8, 3);
        Due.is("number -1", x.write(0, -1, 0), Due.BEYOND);
        Due.is("number 3", x.write(0, 3, 0), Due.BEYOND);
        Due.is("number MIN", x.write(0, Integer.MIN_VALUE, 0), Due.BEYOND);
        Due.is("number MAX", x.write(0, Integer.MAX_VALUE, 0), Due.BEYOND);
        x.sheet(0, 8, 0);
        Due.is("none at all", x.write(0, 0, 0), Due.BEYOND);
        Due.is("told", x.status(0), 7);
    }

    private static void hasNumbers(String what, RopeEnds x, int s, long... due) {
        for (int i = 0; i < due.length; i++) {
            Due.is(what + ": number " + i, x.write(s, i, due[i]), due[i]);
        }
    }

    private static void copy() {
        RopeEnds x = new RopeEnds();
        Due.sheet(x, 0, 16, 1, 2, 3, 4, 5);
        Due.sheet(x, 1, 16, 6, 7, 8);
        Due.is("to another", x.copy(0, 3, 1, 1, 2), 2);
        hasNumbers("to another", x, 1, 6, 4, 5);
        hasNumbers("from", x, 0, 1, 2, 3, 4, 5);
        Due.is("onto itself, up", x.copy(0, 0, 0, 1, 4), 4);
        hasNumbers("up", x, 0, 1, 1, 2, 3, 4);
        Due.is("onto itself, down", x.copy(0, 2, 0, 0, 3), 3);
        hasNumbers("down", x, 0, 2, 3, 4, 3, 4);
        Due.is("nothing", x.copy(0, 5, 1, 3, 0), 0);
        Due.is("all of one", x.copy(1, 0, 0, 2, 3), 3);
        hasNumbers("all of one", x, 0, 2, 3, 6, 4, 5);
        Due.sheet(x, 2, 64, BIG, -1);
        Due.sheet(x, 3, 64, 0, 0);
        Due.is("64 bits", x.copy(2, 0, 3, 1, 1), 1);
        hasNumbers("64 bits", x, 3, 0, BIG);
    }

    private static void copyFindings() {
        RopeEnds x = new RopeEnds();
        Due.sheet(x, 0, 8, 1, 2, 3);
        Due.sheet(x, 1, 16, 1, 2, 3);
        Due.sheet(x, 2, 8, 4, 5);
        Due.is("from -1", x.copy(-1, 0, 0, 0, 1), Due.BEYOND);
        Due.is("from 4", x.copy(4, 0, 0, 0, 1), Due.BEYOND);
        Due.is("to -1", x.copy(3, 0, -1, 0, 1), Due.BEYOND);
        Due.is("to 4", x.copy(3, 0, 4, 0, 1), Due.BEYOND);
        Due.is("from missing", x.copy(3, 0, 0, 0, 1), Due.MISSING);
        Due.is("to missing", x.copy(0, 0, 3, 0, 9), Due.MISSING);
        Due.is("other bits", x.copy(0, 0, 1, 0, 9), Due.KIND);
        Due.is("other bits, none", x.copy(1, 0, 0, 0, 0), Due.KIND);
        int max = Integer.MAX_VALUE;
        int min = Integer.MIN_VALUE;
        int[][] wrong = {{-1, 0, 1}, {0, -1, 1}, {0, 0, -1}, {0, 0, 3}, {1, 0, 3}, {2, 0, 2}, {0, 1, 2}, {0, 2, 1},
            {4, 0, 0}, {0, 3, 0}, {max, 0, 1}, {0, max, 1}, {max, 0, max}, {1, 1, max}, {min, min, min}, {0, 0, min},
            {max, max, 2}, {2, 0, max}};
        for (int[] w : wrong) {
            Due.is("copy from " + w[0] + " to " + w[1] + " of " + w[2], x.copy(0, w[0], 2, w[1], w[2]), Due.BEYOND);
        }
        Due.is("just so many", x.copy(0, 3, 2, 2, 0), 0);
        hasNumbers("nothing came", x, 2, 4, 5);
    }

    private static void lays() {
        RopeEnds x = Due.ropes(0, 1, 2, 3, 4, 5);
        Due.is("sheet -1", x.lays(-1), Due.BEYOND);
        Due.is("sheet 4", x.lays(4), Due.BEYOND);
        Due.is("missing", x.lays(0), Due.MISSING);
        Due.sheet(x, 0, 64, 1, 999, 0, 1000, -5, (1L << 32) + 7, 30, 30);
        Due.is("two came", x.lays(0), 2);
        int[] due = {1, 999, 50, 50, 50, 50};
        for (int rope = 0; rope < 6; rope++) {
            Due.is("length of " + rope, x.of(rope, Due.LENGTH), due[rope]);
        }
        Due.sheet(x, 1, 8, 127, 255, 128);
        Due.is("of 8 bits", x.lays(1), 1);
        Due.is("127", x.of(0, Due.LENGTH), 127);
        Due.is("255 is -1 there", x.of(1, Due.LENGTH), 999);
        Due.sheet(x, 2, 16, 0, 0, 0, 998);
        Due.is("of 16 bits", x.lays(2), 1);
        Due.is("998", x.of(3, Due.LENGTH), 998);
        Due.is("no rope", new RopeEnds().status(-1), 0);
        RopeEnds y = new RopeEnds();
        Due.sheet(y, 0, 8, 5, 5);
        Due.is("for no rope", y.lays(0), 0);
        y.sheet(0, 8, 0);
        y.rope(0);
        Due.is("of no number", y.lays(0), 0);
    }

    private static void book() {
        RopeEnds x = Due.ropes(0, 0, 0);
        Due.is("sheet -1", x.book(-1, 9), Due.BEYOND);
        Due.is("sheet 4", x.book(4, 0), Due.BEYOND);
        Due.is("missing", x.book(0, 9), Due.MISSING);
        x.sheet(0, 16, 4);
        Due.is("none", x.book(0, 3), Due.BEYOND);
        Due.is("-1", x.book(0, -1), Due.BEYOND);
        x.gale(1);
        String before = Due.all(x);
        Due.is("four", x.book(0, 0), 4);
        hasNumbers("0's book", x, 0, 0, 1, 2, 2);
        Due.is("of 2", x.book(0, 2), 4);
        hasNumbers("2's book", x, 0, 0, 0, 1, 2);
        Due.isSo("nothing changes", before.equals(Due.all(x)));
        x.sheet(1, 64, 0);
        Due.is("of none", x.book(1, 0), 0);
    }

    private static void bookGoesOn() {
        RopeEnds x = Due.ropes(Due.ROPE, Due.ROPE);
        x.set(1, Due.FIBRE, 1);
        Due.until(x, 19);
        x.gale(1);
        x.sheet(0, 8, 40);
        Due.is("forty", x.book(0, 1), 40);
        for (int i = 0; i < 40; i++) {
            Due.is("on " + i, x.write(0, i, 0), i >= 2 && i <= 11 ? 1 : 0);
        }
    }

    private static void read() {
        RopeEnds x = Due.ropes(0, 0, 0);
        Due.store(x, "know 0 1; know 1 2");
        Due.is("sheet -1", x.read(-1), Due.BEYOND);
        Due.is("sheet 4", x.read(4), Due.BEYOND);
        Due.is("missing", x.read(0), Due.MISSING);
        x.sheet(0, 8, 0);
        Due.is("no rope at all", x.read(0), 0);
        long[][] sheets = {{0}, {2}, {0, 1, 2}, {2, 1, 0}, {3}, {-1}, {0, 2}, {0, 1, 0}, {0, 1, 1}, {0, 1, 3},
            {1, 2, 0}, {0, 0}, {1, 1L << 32}, {(1L << 32) + 1}, {0, Long.MIN_VALUE}, {8}, {32}};
        int[] due = {0, 0, 0, 0, 1, 1, 2, 3, 3, 3, 3, 2, 2, 1, 2, 1, 1};
        for (int i = 0; i < sheets.length; i++) {
            Due.sheet(x, 0, 64, sheets[i]);
            Due.is("sheet row " + i, x.read(0), due[i]);
        }
        Due.is("no finding", x.status(-1), 3);
    }

    private static void readBending() {
        RopeEnds x = Due.ropes(Due.ROPE, Due.TWINE, Due.BELL);
        Due.store(x, "know 0 1; know 1 2; know 0 2");
        Due.sheet(x, 0, 8, 0, 1, 2);
        Due.is("not to twine", x.read(0), 2);
        Due.sheet(x, 0, 8, 1);
        Due.is("twine alone", x.read(0), 0);
        Due.sheet(x, 0, 8, 1, 0);
        Due.is("not from twine", x.read(0), 2);
        Due.sheet(x, 0, 8, 2, 0);
        Due.is("they know each other", x.read(0), 0);
        x.forget(0, 2);
        Due.is("they don't", x.read(0), 2);
        x.gale(1);
        Due.is("in a gale, at night", x.read(0), 0);
        Due.until(x, 6);
        x.forget(0, 2);
        Due.is("in a gale, by day", x.read(0), 2);
        RopeEnds y = new RopeEnds();
        Due.sheet(y, 0, 8, 0);
        Due.is("there is no rope", y.read(0), 1);
    }

    private static void sheetsOnTheirOwn() {
        RopeEnds x = new RopeEnds();
        for (int s = 0; s < 4; s++) {
            Due.sheet(x, s, 8, 10 + s, 20 + s);
        }
        x.sheet(2, 0, 0);
        hasNumbers("sheet 0", x, 0, 10, 20);
        hasNumbers("sheet 1", x, 1, 11, 21);
        hasNumbers("sheet 3", x, 3, 13, 23);
        Due.is("sheet 2", x.write(2, 0, 0), Due.MISSING);
    }
}
