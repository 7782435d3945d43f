/** The edges of promises 13 to 17: gale, hours, now, on, when. */
final class HoursEdges {
    private HoursEdges() {
    }

    static void run() {
        gale();
        hours();
        theLastHour();
        now();
        on();
        when();
        whenFindings();
    }

    private static void gale() {
        Doc.says(13, "GALE becomes v: what it was.");
        RopeEnds x = new RopeEnds();
        int[] row = {0, 1, 1, 0, 1};
        int was = 0;
        for (int v : row) {
            Due.is("what it was", x.gale(v), was);
            Due.is("what it is", x.now(2), v);
            was = v;
        }
        Doc.says(13, "BEYOND.");
        for (int v : Stores.beside(0, 1)) {
            Twin.refuses("gale(" + v + ")", Stores::busy, y -> y.gale(v), Due.BEYOND);
            Twin.refuses("gale(" + v + ") in a calm", () -> Due.ropes(0, 0), y -> y.gale(v), Due.BEYOND);
        }
    }

    private static void hours() {
        Doc.says(14, "n HOURS go (1 to 60): how many pairs KNOW each other then.");
        Due.is("1 hour", Stores.busy().hours(1), 3);
        Due.is("60 hours", Stores.busy().hours(60), 10);
        RopeEnds x = Stores.busy();
        RopeEnds y = Stores.busy();
        x.hours(60);
        for (int i = 0; i < 60; i++) {
            y.hours(1);
        }
        Due.is("60 hours on", x.now(0), 69);
        Twin.alike("60 hours at once and one by one", x, y);
        Doc.says(14, "BEYOND.");
        for (int n : Stores.beside(1, 60)) {
            Twin.refuses("hours(" + n + ")", Stores::busy, z -> z.hours(n), Due.BEYOND);
        }
    }

    /** So late only behind more than 512 calls, where the document leaves all free; the edge is kept all the same. */
    private static RopeEnds at99940() {
        RopeEnds x = Due.ropes(0);
        for (int i = 0; i < 1665; i++) {
            x.hours(60);
        }
        x.hours(40);
        return x;
    }

    private static void theLastHour() {
        Doc.says(14, "STATE: HOUR would be above 99999.");
        Twin.refuses("to 100000", HoursEdges::at99940, x -> x.hours(60), Due.STATE);
        Twin.refuses("61 are beyond first", HoursEdges::at99940, x -> x.hours(61), Due.BEYOND);
        RopeEnds x = at99940();
        Due.is("to 99999", x.hours(59), 0);
        Due.is("the last hour", x.now(0), 99999);
        Due.is("not 1 more", x.hours(1), Due.STATE);
        Due.is("nor 60", x.hours(60), Due.STATE);
        Due.is("the last hour still", x.now(0), 99999);
    }

    private static void now() {
        Doc.says(15, "What 0 HOUR, 1 the hour of the day, 2 GALE, 3 how many pairs KNOW each other, 4 LENGTH of all together,"
            + " 5 those that OPEN in this HOUR, as a set, 6 TAR of all together.");
        int[] busy = {9, 9, 1, 3, 233, 63, 44};
        for (int what = 0; what <= 6; what++) {
            int w = what;
            Twin.tells("now(" + what + ")", Stores::busy, x -> x.now(w), busy[what]);
            Due.is("of a new object: " + what, new RopeEnds().now(what), 0);
        }
        RopeEnds x = Due.ropes(3, 3, 3, 3, 3, 3, 3, 3);
        for (int rope = 0; rope < 8; rope++) {
            x.set(rope, Due.LENGTH, 999);
            x.set(rope, Due.TAR, 99);
        }
        for (int caller = 0; caller < 8; caller++) {
            for (int other = caller + 1; other < 8; other++) {
                x.call(caller, other);
            }
        }
        int[] most = {0, 0, 0, 28, 7992, 255, 792};
        for (int what = 0; what <= 6; what++) {
            Due.is("of all that there can be: " + what, x.now(what), most[what]);
        }
        Doc.says(15, "BEYOND.");
        for (int what : Stores.beside(0, 6)) {
            Twin.refuses("now(" + what + ")", Stores::busy, y -> y.now(what), Due.BEYOND);
        }
    }

    private static void on() {
        Doc.says(16, "Whom one KNOWS ON n HOURS (0 to 60), as a set.");
        Twin.tells("on 0 hours", Stores::busy, x -> x.on(1, 0), 37);
        Twin.tells("on 1 hour", Stores::busy, x -> x.on(1, 1), 37);
        Twin.tells("on 60 hours", Stores::busy, x -> x.on(5, 60), 0b010111);
        Twin.tells("till the night is begun", Stores::busy, x -> x.on(0, 11), 0b000010);
        Twin.tells("an hour of it", Stores::busy, x -> x.on(0, 12), 0b000110);
        RopeEnds x = Stores.busy();
        for (int n = 0; n < 60; n++) {
            Due.is("as it comes: " + n, x.of(4, Due.KNOWS), Stores.busy().on(4, n));
            x.hours(1);
        }
        Doc.says(16, "BEYOND.");
        for (int n : Stores.beside(0, 60)) {
            Twin.refuses("on(0, " + n + ")", Stores::busy, y -> y.on(0, n), Due.BEYOND);
        }
        for (int none : Stores.noRopes(Stores.BUSY)) {
            Twin.refuses("on(" + none + ", 0)", Stores::busy, y -> y.on(none, 0), Due.BEYOND);
        }
    }

    /** A rope whose tar is short by 4, so that it must wait for four midnights. */
    private static RopeEnds fourDaysShort(int hour) {
        RopeEnds x = Stores.at(hour, Due.ROPE, Due.ROPE);
        x.set(0, Due.TAR, 0);
        x.set(1, Due.PRIDE, 4);
        return x;
    }

    private static void when() {
        Doc.says(17, "In how many HOURS (0 to 100) ON one could CALL on another one first.");
        Twin.tells("0: now", Stores::busy, x -> x.when(2, 0), 0);
        Twin.tells("1 hour", () -> Stores.at(7, 0, 0), x -> x.when(0, 1), 1);
        Twin.tells("0: the first hour", () -> Stores.at(8, 0, 0), x -> x.when(0, 1), 0);
        Twin.tells("0: the last hour", () -> Stores.at(11, 0, 0), x -> x.when(0, 1), 0);
        Twin.tells("the next day", () -> Stores.at(12, 0, 0), x -> x.when(0, 1), 20);
        Twin.tells("three midnights behind this one", () -> fourDaysShort(0), x -> x.when(0, 1), 80);
        Twin.tells("four midnights", () -> fourDaysShort(5), x -> x.when(0, 1), 99);
        Twin.tells("100 hours", () -> fourDaysShort(4), x -> x.when(0, 1), 100);
        Twin.tells("19 are too short for the gale", () -> inAGale(19), x -> x.when(0, 1), 8);
        Twin.refuses("20 are not: they know each other by then", () -> inAGale(20), x -> x.when(0, 1), Due.NONE);
        Doc.says(17, "BEYOND: also one and the same.");
        for (int[] no : Stores.noPairs(Stores.BUSY)) {
            Twin.refuses("when(" + no[0] + ", " + no[1] + ")", Stores::busy, x -> x.when(no[0], no[1]), Due.BEYOND);
        }
    }

    private static RopeEnds inAGale(int length) {
        RopeEnds x = Due.ropes(0, 0);
        x.set(0, Due.LENGTH, length);
        x.gale(1);
        return x;
    }

    private static void whenFindings() {
        Doc.says(17, "STATE: they KNOW each other.");
        Twin.refuses("they do", Stores::busy, x -> x.when(0, 1), Due.STATE);
        Twin.refuses("the other way", Stores::busy, x -> x.when(1, 0), Due.STATE);
        RopeEnds called = Stores.at(9, 0, 0);
        called.call(0, 1);
        Due.is("by a call just now", called.when(0, 1), Due.STATE);
        called.forget(1, 0);
        Due.is("not any more", called.when(0, 1), 0);
        Twin.refuses("though they never could", HoursEdges::friendsThatDontMeet, x -> x.when(0, 1), Due.STATE);
        Doc.says(17, "NONE.");
        Twin.refuses("101 hours", () -> fourDaysShort(3), x -> x.when(0, 1), Due.NONE);
        Twin.refuses("they don't meet", Stores::busy, x -> x.when(4, 0), Due.NONE);
        Twin.refuses("too much is asked, till the gale brings them together", Stores::busy, x -> x.when(5, 2), Due.NONE);
    }

    private static RopeEnds friendsThatDontMeet() {
        RopeEnds x = Due.ropes(0, 0);
        x.set(0, Due.FIBRE, 3);
        Due.store(x, "know 0 1");
        return x;
    }
}
