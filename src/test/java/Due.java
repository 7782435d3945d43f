/** What the project's tests share: they tell each answer that is not as due, and end with 1 if there was one. */
final class Due {
    static final int BEYOND = -1000000001;
    static final int FULL = -1000000002;
    static final int KIND = -1000000003;
    static final int NONE = -1000000004;
    static final int STATE = -1000000005;
    static final int MISSING = -1000000006;
    static final int SIZE = -1000000007;

    static final int ROPE = 0;
    static final int WARP = 1;
    static final int CABLE = 2;
    static final int TWINE = 3;
    static final int HAWSER = 4;
    static final int BELL = 5;

    static final int LENGTH = 1;
    static final int FIBRE = 2;
    static final int PRIDE = 3;
    static final int TAR = 4;
    static final int END = 5;
    static final int KNOWS = 6;
    static final int ASKS = 7;
    static final int OPENS = 8;

    private static int asked = 0;
    private static int wrong = 0;
    /** What the answers that follow are about; it is told with each that is not as due. */
    private static String about = "";

    private Due() {
    }

    static void about(String what) {
        about = "[" + what + "] ";
    }

    static void is(String what, long got, long want) {
        asked++;
        if (got != want) {
            wrong++;
            System.out.println(about + what + " answered " + got + ", due is " + want);
        }
    }

    static void isSo(String what, boolean so) {
        is(what, so ? 1 : 0, 1);
    }

    static void end() {
        System.out.println(asked + " answers, " + wrong + " not as due");
        if (wrong != 0 || asked == 0) {
            System.exit(1);
        }
    }

    /** An object with a rope of each kind that is named. */
    static RopeEnds ropes(int... kinds) {
        RopeEnds x = new RopeEnds();
        for (int kind : kinds) {
            x.rope(kind);
        }
        return x;
    }

    /** Up to four bytes of a text from a place on, as feed takes them. */
    static int bytes(String text, int from) {
        int bytes = 0;
        for (int i = from; i < Math.min(text.length(), from + 4); i++) {
            bytes = bytes << 8 | text.charAt(i);
        }
        return bytes;
    }

    /** Feeds a text, four bytes at a time: an object's calls are counted. */
    static void feed(RopeEnds x, String text) {
        for (int i = 0; i < text.length(); i += 4) {
            x.feed(bytes(text, i), Math.min(4, text.length() - i));
        }
    }

    static int store(RopeEnds x, String text) {
        feed(x, text);
        return x.store();
    }

    /** Lets hours go until an hour of the day, none if it is that already. */
    static void until(RopeEnds x, int hourOfDay) {
        while (x.now(1) != hourOfDay) {
            x.hours(1);
        }
    }

    /** A sheet of these numbers. */
    static void sheet(RopeEnds x, int s, int bits, long... numbers) {
        x.sheet(s, bits, numbers.length);
        for (int i = 0; i < numbers.length; i++) {
            x.write(s, i, numbers[i]);
        }
    }

    /** All that can be seen of an object without changing it but for its status, as a text. */
    static String all(RopeEnds x) {
        StringBuilder seen = new StringBuilder();
        for (int what = 0; what <= 6; what++) {
            seen.append(x.now(what)).append(' ');
        }
        for (int what = 0; what <= 3; what++) {
            seen.append(x.count(what)).append(' ');
        }
        for (int rope = 0; rope < x.count(0); rope++) {
            for (int what = 0; what <= 8; what++) {
                seen.append(x.of(rope, what)).append(' ');
            }
        }
        return seen.toString();
    }
}
