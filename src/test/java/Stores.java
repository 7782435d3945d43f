import java.util.ArrayList;
import java.util.List;

/** Objects that the edges are asked of, and the numbers just beside what is allowed. */
final class Stores {
    static final int MIN = Integer.MIN_VALUE;
    static final int MAX = Integer.MAX_VALUE;
    static final long BIG = 0x123456789ABCDEF0L;
    /** How many ropes busy() has. */
    static final int BUSY = 6;

    private Stores() {
    }

    /**
     * Six ropes at 9 o'clock in a gale; an image of something else; sheets of 8, 16 and 64 bits,
     * the last one missing; a tape with a text. 0 knows 1, 1 knows 2, 5 is cut off 0 and knows 1.
     */
    static RopeEnds busy() {
        RopeEnds x = Due.ropes(Due.ROPE, Due.WARP, Due.CABLE, Due.TWINE, Due.BELL);
        // A finding ahead of all else, so that a later one has nothing to repeat.
        x.gale(9);
        x.image();
        Due.store(x, "know 0 1; know 1 2");
        x.set(1, Due.FIBRE, 1);
        x.set(2, Due.PRIDE, 4);
        x.set(3, Due.LENGTH, 33);
        x.hours(9);
        x.set(4, Due.TAR, 20);
        x.cut(0, 30);
        x.gale(1);
        Due.sheet(x, 0, 8, 5, 200, 7);
        Due.sheet(x, 1, 16, 1000, 2);
        Due.sheet(x, 2, 64, BIG);
        Due.feed(x, "warp long 7;calm");
        return x;
    }

    /** As busy(), with as many ropes as there may be, and a text that brings none. */
    static RopeEnds full() {
        RopeEnds x = busy();
        x.rope(Due.HAWSER);
        x.rope(Due.ROPE);
        x.wipe();
        Due.feed(x, "know 0 7;calm");
        return x;
    }

    /** As busy(), without an image. */
    static RopeEnds torn() {
        RopeEnds x = busy();
        x.tear();
        return x;
    }

    static RopeEnds empty() {
        return new RopeEnds();
    }

    /** At an hour of the day, with a rope of each kind that is named. */
    static RopeEnds at(int hourOfDay, int... kinds) {
        RopeEnds x = Due.ropes(kinds);
        if (hourOfDay > 0) {
            x.hours(hourOfDay);
        }
        return x;
    }

    /** Numbers that are no rope's where there are so many; some would be one's by their lowest bits. */
    static int[] noRopes(int size) {
        return new int[] {-1, size, 8, 32, 33, 64, 256, 65536, -8, MIN, MIN + 1, MAX};
    }

    /** Pairs of numbers of which one is no rope's, or which are one and the same. */
    static List<int[]> noPairs(int size) {
        List<int[]> pairs = new ArrayList<>();
        for (int none : noRopes(size)) {
            pairs.add(new int[] {0, none});
            pairs.add(new int[] {none, 0});
        }
        for (int rope = 0; rope < size; rope++) {
            pairs.add(new int[] {rope, rope});
        }
        pairs.add(new int[] {size, size});
        return pairs;
    }

    /** Numbers below and above what is allowed. */
    static int[] beside(int least, int most) {
        return new int[] {least - 1, most + 1, MIN, MAX, least - 256, most + 256, least - 65536, most + 65536};
    }
}
