/** The edges of promises 1 to 7: a new object, rope, of, set, turn, as, meets. */
final class RopesEdges {
    private RopesEdges() {
    }

    static void run() {
        newObject();
        rope();
        of();
        set();
        turn();
        as();
        meets();
    }

    private static void newObject() {
        Doc.says(1, "No ROPES;");
        RopeEnds x = new RopeEnds();
        Due.is("none", x.count(0), 0);
        Due.is("not the first", x.of(0, 0), Due.BEYOND);
        Due.is("no length", x.now(4), 0);
        Due.is("no line", x.longest(), Due.NONE);
        Due.is("nobody is best known", x.known(), Due.NONE);
        Due.is("the first to come", x.rope(0), 0);
        Doc.says(1, "THE TAPE is empty,");
        Due.is("no bytes", x.count(1), 0);
        Due.is("nothing to wipe", x.wipe(), 0);
        Due.is("no text", x.store(), -1);
        Doc.says(1, "no image is kept.");
        Due.is("nothing to tear", x.tear(), 0);
        Due.is("nothing to undo", x.undo(), Due.NONE);
        Due.is("the rope is left", x.count(0), 1);
    }

    private static void rope() {
        Doc.says(2, "A new ROPE: its number.");
        RopeEnds x = new RopeEnds();
        for (int i = 0; i < 8; i++) {
            Due.is("number", x.rope(i % 6), i);
            Due.is("how many", x.count(0), i + 1);
        }
        Doc.says(2, "BEYOND: kind.");
        for (int kind : Stores.beside(0, 5)) {
            Twin.refuses("kind " + kind, Stores::busy, y -> y.rope(kind), Due.BEYOND);
            Twin.refuses("kind " + kind + " for a ninth", Stores::full, y -> y.rope(kind), Due.BEYOND);
        }
        Due.is("the least kind", Due.ropes(0).of(0, 0), 0);
        Due.is("the greatest kind", Due.ropes(5).of(0, 0), 5);
        Doc.says(2, "FULL.");
        for (int kind = 0; kind < 6; kind++) {
            int k = kind;
            Twin.refuses("a ninth of kind " + kind, Stores::full, y -> y.rope(k), Due.FULL);
        }
    }

    private static void of() {
        Doc.says(3, "Of a ROPE: what 0 KIND, 1 LENGTH, 2 FIBRE, 3 PRIDE, 4 TAR, 5 END (-1), 6 whom it KNOWS, as a set,"
            + " 7 ASKS, 8 1 if it OPENS in this HOUR, else 0.");
        // By the rope of the busy store, which are at 9 o'clock.
        int[][] due = {{0, 30, 0, 3, 6, 5, 2, 3, 1}, {1, 50, 1, 3, 6, -1, 37, 3, 1}, {2, 50, 0, 4, 6, -1, 2, 8, 1},
            {3, 33, 0, 3, 6, -1, 0, 0, 1}, {5, 50, 0, 3, 20, -1, 0, 6, 1}, {0, 20, 0, 3, 0, 0, 2, 3, 1}};
        for (int rope = 0; rope < Stores.BUSY; rope++) {
            for (int what = 0; what <= 8; what++) {
                int r = rope;
                int w = what;
                Twin.tells("of(" + rope + ", " + what + ")", Stores::busy, x -> x.of(r, w), due[rope][what]);
            }
        }
        Due.is("a cable at 8", Stores.at(8, Due.CABLE).of(0, Due.OPENS), 0);
        Doc.says(3, "BEYOND.");
        for (int what : Stores.beside(0, 8)) {
            Twin.refuses("what " + what, Stores::busy, x -> x.of(0, what), Due.BEYOND);
        }
        for (int none : Stores.noRopes(Stores.BUSY)) {
            Twin.refuses("rope " + none, Stores::busy, x -> x.of(none, 0), Due.BEYOND);
        }
        Due.is("a ninth", Stores.full().of(8, 0), Due.BEYOND);
        Due.is("the eighth", Stores.full().of(7, 0), 0);
    }

    private static void set() {
        Doc.says(4, "LENGTH (what 1), FIBRE (2), PRIDE (3), TAR (4) of a ROPE becomes v: what it was.");
        int[] least = {0, 1, 0, 0, 0};
        int[] most = {0, 999, 3, 9, 99};
        for (int what = 1; what <= 4; what++) {
            RopeEnds x = Stores.full();
            int was = x.of(7, what);
            for (int v : new int[] {least[what], least[what] + 1, most[what] - 1, most[what], most[what]}) {
                Due.is("what it was", x.set(7, what, v), was);
                Due.is("what it is", x.of(7, what), v);
                was = v;
            }
            x.set(7, what, Stores.full().of(7, what));
            Twin.alike("all else is left", x, Stores.full());
        }
        Doc.says(4, "BEYOND.");
        for (int what = 1; what <= 4; what++) {
            int w = what;
            for (int v : Stores.beside(least[what], most[what])) {
                Twin.refuses("set(0, " + what + ", " + v + ")", Stores::busy, x -> x.set(0, w, v), Due.BEYOND);
            }
        }
        for (int what : new int[] {0, 5, 6, 7, 8, -1, 257, Stores.MIN, Stores.MAX}) {
            Twin.refuses("what " + what, Stores::busy, x -> x.set(0, what, 1), Due.BEYOND);
        }
        for (int none : Stores.noRopes(Stores.BUSY)) {
            Twin.refuses("rope " + none, Stores::busy, x -> x.set(none, 1, 1), Due.BEYOND);
        }
    }

    private static void turn() {
        Doc.says(5, "A ROPE becomes one of another KIND: what it was.");
        for (int from = 0; from < 6; from++) {
            for (int to = 0; to < 6; to++) {
                RopeEnds x = Due.ropes(from, from);
                Due.is("what it was", x.turn(1, to), from);
                Due.is("what it is", x.of(1, 0), to);
                Due.is("the other one", x.of(0, 0), from);
            }
        }
        RopeEnds x = Stores.full();
        x.turn(0, Due.BELL);
        Due.is("it asks as such", x.of(0, Due.ASKS), 5);
        x.turn(0, Due.ROPE);
        Twin.alike("there and back", x, Stores.full());
        Doc.says(5, "BEYOND.");
        for (int kind : Stores.beside(0, 5)) {
            Twin.refuses("kind " + kind, Stores::busy, y -> y.turn(0, kind), Due.BEYOND);
        }
        for (int none : Stores.noRopes(Stores.BUSY)) {
            Twin.refuses("rope " + none, Stores::busy, y -> y.turn(none, 0), Due.BEYOND);
        }
    }

    private static void as() {
        Doc.says(6, "A ROPE as one of a kind: LENGTH.");
        Twin.tells("a rope as a rope", Stores::busy, x -> x.as(0, Due.ROPE), 30);
        Twin.tells("a twine as a rope", Stores::busy, x -> x.as(3, Due.ROPE), 33);
        RopeEnds x = Due.ropes(Due.HAWSER);
        x.set(0, Due.LENGTH, 999);
        Due.is("the greatest length", x.as(0, Due.WARP), 999);
        x.set(0, Due.LENGTH, 1);
        Due.is("the least length", x.as(0, Due.ROPE), 1);
        Doc.says(6, "BEYOND: no such one, kind.");
        for (int kind : Stores.beside(0, 5)) {
            Twin.refuses("kind " + kind, Stores::busy, y -> y.as(0, kind), Due.BEYOND);
        }
        for (int none : Stores.noRopes(Stores.BUSY)) {
            Twin.refuses("rope " + none, Stores::busy, y -> y.as(none, 0), Due.BEYOND);
        }
        Doc.says(6, "KIND: it isn't of that kind, nor of one under it.");
        int[][] wrong = {{0, 1}, {0, 5}, {1, 2}, {1, 4}, {2, 1}, {2, 5}, {3, 2}, {4, 1}, {4, 4}, {5, 1}};
        for (int[] w : wrong) {
            Twin.refuses("as(" + w[0] + ", " + w[1] + ")", Stores::busy, y -> y.as(w[0], w[1]), Due.KIND);
        }
        Due.is("a hawser under a warp", Stores.full().as(6, Due.WARP), 50);
        Due.is("a hawser under a rope", Stores.full().as(6, Due.ROPE), 50);
        Due.is("a hawser is no cable", Stores.full().as(6, Due.CABLE), Due.KIND);
        Due.is("a bell under a cable", Stores.busy().as(4, Due.CABLE), 50);
    }

    private static void meets() {
        Doc.says(7, "1 if one MEETS the FIBRE of another one, else 0.");
        Twin.tells("a warp of 1 meets 0", Stores::busy, x -> x.meets(1, 0), 1);
        Twin.tells("a rope of 0 doesn't meet 1", Stores::busy, x -> x.meets(0, 1), 0);
        Twin.tells("a bell doesn't meet its own", Stores::busy, x -> x.meets(4, 0), 0);
        Twin.tells("the last two", Stores::full, x -> x.meets(6, 7), 1);
        Doc.says(7, "BEYOND: also one and the same.");
        for (int[] no : Stores.noPairs(Stores.BUSY)) {
            Twin.refuses("meets(" + no[0] + ", " + no[1] + ")", Stores::busy, x -> x.meets(no[0], no[1]), Due.BEYOND);
        }
    }
}
