/** Promises 1 to 7: a new object, rope, of, set, turn, as, meets. */
public final class RopesTest {
    public static void main(String[] args) {
        newObject();
        rope();
        of();
        asks();
        opens();
        set();
        turn();
        as();
        meets();
        Due.end();
    }

    private static void newObject() {
        RopeEnds x = new RopeEnds();
        for (int what = 0; what <= 6; what++) {
            Due.is("new: now " + what, x.now(what), 0);
        }
        for (int what = 0; what <= 3; what++) {
            Due.is("new: count " + what, x.count(what), 0);
        }
        for (int which = -1; which <= 6; which++) {
            Due.is("new: status " + which, x.status(which), 0);
        }
        Due.is("new: tear", x.tear(), 0);
        Due.is("new: undo", x.undo(), Due.NONE);
        for (int s = 0; s < 4; s++) {
            Due.is("new: sheet " + s, x.read(s), Due.MISSING);
        }
        Due.is("new: of", x.of(0, 0), Due.BEYOND);
    }

    private static void rope() {
        RopeEnds x = new RopeEnds();
        Due.is("rope(-1)", x.rope(-1), Due.BEYOND);
        Due.is("rope(6)", x.rope(6), Due.BEYOND);
        Due.is("rope(MIN)", x.rope(Integer.MIN_VALUE), Due.BEYOND);
        Due.is("rope(MAX)", x.rope(Integer.MAX_VALUE), Due.BEYOND);
        for (int i = 0; i < 8; i++) {
            Due.is("rope " + i, x.rope(i % 6), i);
            Due.is("its kind", x.of(i, 0), i % 6);
        }
        Due.is("the ninth", x.rope(0), Due.FULL);
        Due.is("the ninth of no kind", x.rope(6), Due.BEYOND);
        Due.is("ropes", x.count(0), 8);
    }

    private static void of() {
        RopeEnds x = Due.ropes(Due.WARP, Due.ROPE);
        int[] first = {1, 50, 0, 3, 5, -1, 0, 3, 0};
        for (int what = 0; what <= 8; what++) {
            Due.is("of a new one " + what, x.of(0, what), first[what]);
        }
        Due.is("of(0, -1)", x.of(0, -1), Due.BEYOND);
        Due.is("of(0, 9)", x.of(0, 9), Due.BEYOND);
        Due.is("of(2, 0)", x.of(2, 0), Due.BEYOND);
        Due.is("of(-1, 0)", x.of(-1, 0), Due.BEYOND);
        Due.is("of(8, 0)", x.of(8, 0), Due.BEYOND);
        Due.is("of(MIN, MIN)", x.of(Integer.MIN_VALUE, Integer.MIN_VALUE), Due.BEYOND);
        Due.is("know", Due.store(x, "know 0 1"), 1);
        Due.is("whom 0 knows", x.of(0, Due.KNOWS), 2);
        Due.is("whom 1 knows", x.of(1, Due.KNOWS), 1);
    }

    private static void asks() {
        int[] due = {7, 7, 14, 0, 9, 14};
        for (int kind = 0; kind < 6; kind++) {
            RopeEnds x = Due.ropes(kind);
            x.set(0, Due.PRIDE, 7);
            Due.is("kind " + kind + " asks", x.of(0, Due.ASKS), due[kind]);
        }
        RopeEnds x = Due.ropes(Due.BELL, Due.ROPE, Due.ROPE, Due.ROPE);
        x.set(0, Due.PRIDE, 1);
        int[] less = {2, 1, 0, 0};
        for (int known = 0; known < 4; known++) {
            if (known > 0) {
                Due.store(x, "know 0 " + known);
            }
            Due.is("a bell that knows " + known, x.of(0, Due.ASKS), less[known]);
        }
        RopeEnds y = Due.ropes(Due.CABLE, Due.ROPE);
        Due.store(y, "know 0 1");
        Due.is("a cable asks as much of all", y.of(0, Due.ASKS), 6);
    }

    private static void opens() {
        int[][] due = {
            {8, 9, 10, 11}, {8, 9, 10, 11, 12}, {9, 11},
            {0, 1, 2, 3, 4, 5, 6, 7, 8, 9, 10, 11, 12, 13, 14, 15, 16, 17, 18, 19, 20, 21, 22, 23},
            {8, 9, 10, 11, 12}, {9, 11, 16}};
        RopeEnds x = Due.ropes(0, 1, 2, 3, 4, 5);
        for (int passed = 0; passed < 30; passed++) {
            int set = 0;
            for (int kind = 0; kind < 6; kind++) {
                int open = 0;
                for (int h : due[kind]) {
                    open |= h == passed % 24 ? 1 : 0;
                }
                Due.is("kind " + kind + " opens at " + passed, x.of(kind, Due.OPENS), open);
                set |= open << kind;
            }
            Due.is("those that open at " + passed, x.now(5), set);
            x.hours(1);
        }
    }

    private static void set() {
        int[] first = {0, 50, 0, 3, 5};
        int[] least = {0, 1, 0, 0, 0};
        int[] most = {0, 999, 3, 9, 99};
        RopeEnds x = Due.ropes(Due.TWINE, Due.TWINE);
        for (int what = 1; what <= 4; what++) {
            Due.is("set least " + what, x.set(1, what, least[what]), first[what]);
            Due.is("of least " + what, x.of(1, what), least[what]);
            Due.is("set most " + what, x.set(1, what, most[what]), least[what]);
            Due.is("of most " + what, x.of(1, what), most[what]);
            Due.is("set too little " + what, x.set(1, what, least[what] - 1), Due.BEYOND);
            Due.is("set too much " + what, x.set(1, what, most[what] + 1), Due.BEYOND);
            Due.is("set MIN " + what, x.set(1, what, Integer.MIN_VALUE), Due.BEYOND);
            Due.is("set MAX " + what, x.set(1, what, Integer.MAX_VALUE), Due.BEYOND);
            Due.is("of still " + what, x.of(1, what), most[what]);
            Due.is("the other one's " + what, x.of(0, what), first[what]);
        }
        for (int what : new int[] {0, 5, 6, 7, 8, -1, Integer.MAX_VALUE, Integer.MIN_VALUE}) {
            Due.is("set of " + what, x.set(1, what, 1), Due.BEYOND);
        }
        Due.is("set of none", x.set(2, 1, 1), Due.BEYOND);
        Due.is("set of -1", x.set(-1, 1, 1), Due.BEYOND);
    }

    private static void turn() {
        RopeEnds x = Due.ropes(Due.BELL, Due.BELL);
        x.set(0, Due.LENGTH, 7);
        for (int kind = 0; kind < 6; kind++) {
            Due.is("turn to " + kind, x.turn(0, kind), kind == 0 ? Due.BELL : kind - 1);
            Due.is("of what kind", x.of(0, 0), kind);
        }
        Due.is("turn to the same", x.turn(0, Due.BELL), Due.BELL);
        Due.is("length is left", x.of(0, Due.LENGTH), 7);
        Due.is("turn to -1", x.turn(0, -1), Due.BEYOND);
        Due.is("turn to 6", x.turn(0, 6), Due.BEYOND);
        Due.is("turn of none", x.turn(2, 0), Due.BEYOND);
        Due.is("turn of -1", x.turn(-1, 0), Due.BEYOND);
        Due.is("of what kind still", x.of(0, 0), Due.BELL);
        Due.is("the other one", x.of(1, 0), Due.BELL);
    }

    private static void as() {
        String[] above = {"0", "01", "02", "03", "014", "025"};
        RopeEnds x = Due.ropes(0, 1, 2, 3, 4, 5);
        for (int rope = 0; rope < 6; rope++) {
            x.set(rope, Due.LENGTH, 100 + rope);
            for (int kind = 0; kind < 6; kind++) {
                boolean is = above[rope].indexOf('0' + kind) >= 0;
                Due.is("as " + rope + " " + kind, x.as(rope, kind), is ? 100 + rope : Due.KIND);
            }
        }
        Due.is("as of none", x.as(6, 0), Due.BEYOND);
        Due.is("as of -1", x.as(-1, 0), Due.BEYOND);
        Due.is("as -1", x.as(0, -1), Due.BEYOND);
        Due.is("as 6", x.as(0, 6), Due.BEYOND);
    }

    private static void meets() {
        // By kind, then by the fibre of its own: the fibres it meets, as a set.
        int[][] due = {
            {1, 2, 4, 8}, {3, 7, 14, 12}, {1, 2, 4, 8}, {15, 15, 15, 15}, {3, 7, 6, 4}, {14, 13, 11, 7}};
        RopeEnds x = Due.ropes(0, 0);
        for (int kind = 0; kind < 6; kind++) {
            for (int own = 0; own < 4; own++) {
                for (int fibre = 0; fibre < 4; fibre++) {
                    x = Due.ropes(0, kind);
                    x.set(1, Due.FIBRE, own);
                    x.set(0, Due.FIBRE, fibre);
                    Due.is("kind " + kind + " of " + own + " meets " + fibre, x.meets(1, 0), due[kind][own] >> fibre & 1);
                }
            }
        }
        Due.is("meets itself", x.meets(1, 1), Due.BEYOND);
        Due.is("meets none", x.meets(0, 2), Due.BEYOND);
        Due.is("none meets", x.meets(2, 0), Due.BEYOND);
        Due.is("meets -1", x.meets(0, -1), Due.BEYOND);
        Due.is("-1 meets", x.meets(-1, 0), Due.BEYOND);
    }
}
