/** Promises 13 to 17: gale, hours, now, on, when. */
public final class HoursTest {
    public static void main(String[] args) {
        gale();
        hours();
        theLastHour();
        tarComes();
        aGaleAtNight();
        whoTakesHold();
        aFullStoreInAGale();
        theMorning();
        now();
        on();
        when();
        whenTarOrAGaleDecides();
        whenFindings();
        Due.end();
    }

    private static void gale() {
        RopeEnds x = new RopeEnds();
        Due.is("gale(1)", x.gale(1), 0);
        Due.is("now", x.now(2), 1);
        Due.is("gale(1) again", x.gale(1), 1);
        Due.is("gale(2)", x.gale(2), Due.BEYOND);
        Due.is("gale(-1)", x.gale(-1), Due.BEYOND);
        Due.is("now still", x.now(2), 1);
        Due.is("gale(0)", x.gale(0), 1);
        Due.is("now none", x.now(2), 0);
    }

    private static void hours() {
        RopeEnds x = Due.ropes(0, 0);
        Due.store(x, "know 0 1");
        Due.is("hours(0)", x.hours(0), Due.BEYOND);
        Due.is("hours(-1)", x.hours(-1), Due.BEYOND);
        Due.is("hours(61)", x.hours(61), Due.BEYOND);
        Due.is("hours(MIN)", x.hours(Integer.MIN_VALUE), Due.BEYOND);
        Due.is("hours(MAX)", x.hours(Integer.MAX_VALUE), Due.BEYOND);
        Due.is("hour still", x.now(0), 0);
        Due.is("hours(1)", x.hours(1), 1);
        Due.is("hours(60)", x.hours(60), 1);
        Due.is("hour", x.now(0), 61);
        Due.is("hour of the day", x.now(1), 13);
    }

    /** The document leaves free what is answered behind 512 calls, which is too soon for this; the edge is kept all the same. */
    private static void theLastHour() {
        RopeEnds x = new RopeEnds();
        for (int i = 0; i < 1666; i++) {
            x.hours(60);
        }
        Due.is("hour", x.now(0), 99960);
        Due.is("above 99999", x.hours(40), Due.STATE);
        Due.is("beyond is asked first", x.hours(61), Due.BEYOND);
        Due.is("hour still", x.now(0), 99960);
        Due.is("to 99999", x.hours(39), 0);
        Due.is("no more", x.hours(1), Due.STATE);
        Due.is("the last hour", x.now(0), 99999);
    }

    private static void tarComes() {
        RopeEnds x = Due.ropes(Due.ROPE, Due.TWINE, Due.BELL);
        x.set(1, Due.TAR, 98);
        x.set(2, Due.TAR, 99);
        x.hours(1);
        Due.is("at hour 0", x.of(0, Due.TAR), 6);
        Due.is("99 at most", x.of(1, Due.TAR), 99);
        Due.is("not more", x.of(2, Due.TAR), 99);
        x.hours(23);
        Due.is("till the day's end", x.of(0, Due.TAR), 6);
        x.hours(1);
        Due.is("at hour 24", x.of(0, Due.TAR), 7);
        Due.is("still 99", x.of(1, Due.TAR), 99);
        x.hours(60);
        Due.is("two days on", x.of(0, Due.TAR), 9);
    }

    private static void aGaleAtNight() {
        RopeEnds x = Due.ropes(0, 0, 0, 0, 0);
        Due.until(x, 19);
        x.gale(1);
        int[] pairs = {0, 1, 2, 3, 4, 5, 6, 7, 8, 9, 10, 10};
        for (int i = 0; i < pairs.length; i++) {
            Due.is("pairs after hour " + x.now(1), x.hours(1), pairs[i]);
        }
        Due.is("the morning comes", x.now(1), 7);
        Due.is("the gale is over", x.now(2), 0);

        RopeEnds y = Due.ropes(0, 0, 0, 0);
        y.gale(1);
        int[][] knows = {{2, 1, 0, 0}, {6, 1, 1, 0}, {14, 1, 1, 1}, {14, 5, 3, 1}, {14, 13, 3, 3}, {14, 13, 11, 7}};
        for (int h = 0; h < 6; h++) {
            y.hours(1);
            for (int rope = 0; rope < 4; rope++) {
                Due.is("whom " + rope + " knows after hour " + h, y.of(rope, Due.KNOWS), knows[h][rope]);
            }
        }
    }

    private static void whoTakesHold() {
        RopeEnds x = Due.ropes(Due.TWINE, Due.ROPE, Due.CABLE, Due.BELL);
        x.set(1, Due.LENGTH, 19);
        x.set(2, Due.LENGTH, 20);
        x.gale(1);
        Due.is("twine and a short one take hold of nothing", x.hours(1), 1);
        Due.is("those that did", x.of(2, Due.KNOWS), 8);
        Due.is("there are no more", x.hours(1), 1);
        x.set(1, Due.LENGTH, 20);
        Due.is("20 is long enough", x.hours(1), 2);
        Due.is("the lesser ones first", x.of(1, Due.KNOWS), 4);
        x.gale(0);
        Due.is("without a gale nothing", x.hours(1), 2);
    }

    private static void aFullStoreInAGale() {
        RopeEnds x = Due.ropes(0, 0, 0, 0, 0, 0, 0, 0);
        x.set(7, Due.FIBRE, 1);
        Due.until(x, 19);
        x.gale(1);
        Due.is("ten hours of night", x.hours(11), 10);
        Due.is("0 knows all", x.of(0, Due.KNOWS), 254);
        Due.is("best known", x.known(), 0);
        Due.is("longest by day: 2 1 3 0 5", x.longest(), 242);
        Due.is("in how many rounds", x.rounds(1, 7), Due.NONE);
        Due.is("in how many rounds of a like fibre", x.rounds(5, 6), 1);
        Due.is("the morning parts 0 and 7", x.hours(1), 9);
        Due.is("0 knows all but 7", x.of(0, Due.KNOWS), 126);
        Due.is("7 knows nobody", x.of(7, Due.KNOWS), 0);
        Due.is("length of all", x.now(4), 400);
        Due.is("tar of all", x.now(6), 56);
    }

    private static void theMorning() {
        RopeEnds x = Due.ropes(Due.ROPE, Due.ROPE, Due.WARP, Due.TWINE, Due.HAWSER);
        x.set(1, Due.FIBRE, 2);
        x.set(2, Due.FIBRE, 1);
        x.set(4, Due.FIBRE, 3);
        Due.until(x, 6);
        Due.store(x, "know 0 1; know 0 2; know 1 2; know 0 3; know 4 0; know 4 1; know 4 3");
        x.hours(1);
        Due.is("without a gale all is left", x.now(3), 7);
        Due.until(x, 6);
        x.gale(1);
        Due.is("pairs at the braces", x.hours(1), 5);
        Due.is("the gale is over", x.now(2), 0);
        Due.is("0 doesn't know 1, 4", x.of(0, Due.KNOWS), 12);
        Due.is("1 knows 2, 4: one of the two meets", x.of(1, Due.KNOWS), 20);
        Due.is("4 knows 1, 3", x.of(4, Due.KNOWS), 10);
        x.gale(1);
        x.hours(23);
        Due.is("it lasts till hour 6", x.now(2), 1);
        Due.is("which is now", x.now(1), 6);
        x.hours(1);
        Due.is("then it is over", x.now(2), 0);
    }

    private static void now() {
        RopeEnds x = Due.ropes(Due.ROPE, Due.WARP, Due.TWINE);
        x.set(0, Due.LENGTH, 999);
        x.set(1, Due.TAR, 90);
        Due.store(x, "know 0 1; gale");
        x.hours(60);
        x.gale(1);
        int[] due = {60, 12, 1, 1, 1099, 6, 109};
        for (int what = 0; what <= 6; what++) {
            Due.is("now " + what, x.now(what), due[what]);
        }
        Due.is("now(-1)", x.now(-1), Due.BEYOND);
        Due.is("now(7)", x.now(7), Due.BEYOND);
        Due.is("now(MIN)", x.now(Integer.MIN_VALUE), Due.BEYOND);
    }

    private static void on() {
        RopeEnds x = Due.ropes(Due.ROPE, Due.ROPE, Due.ROPE);
        x.set(1, Due.FIBRE, 3);
        Due.until(x, 22);
        x.gale(1);
        String before = Due.all(x);
        int[] due = {0, 2, 6, 6, 6, 6, 6, 6, 6, 4, 4};
        for (int n = 0; n < due.length; n++) {
            Due.is("on(0, " + n + ")", x.on(0, n), due[n]);
        }
        Due.is("on(1, 8)", x.on(1, 8), 5);
        Due.is("on(1, 60)", x.on(1, 60), 0);
        Due.isSo("nothing changes", before.equals(Due.all(x)));
        Due.is("on(0, 61)", x.on(0, 61), Due.BEYOND);
        Due.is("on(0, -1)", x.on(0, -1), Due.BEYOND);
        Due.is("on(0, MIN)", x.on(0, Integer.MIN_VALUE), Due.BEYOND);
        Due.is("on(3, 0)", x.on(3, 0), Due.BEYOND);
        Due.is("on(-1, 0)", x.on(-1, 0), Due.BEYOND);
    }

    private static void when() {
        RopeEnds x = Due.ropes(Due.ROPE, Due.WARP, Due.CABLE, Due.TWINE, Due.BELL);
        x.set(4, Due.FIBRE, 3);
        String before = Due.all(x);
        Due.is("a cable on a rope", x.when(2, 0), 8);
        Due.is("a rope on a cable", x.when(0, 2), 9);
        Due.is("on twine at once", x.when(1, 3), 0);
        Due.is("a twine on a bell", x.when(3, 4), 9);
        Due.is("a rope that doesn't meet it", x.when(0, 4), Due.NONE);
        Due.isSo("nothing changes", before.equals(Due.all(x)));
        x.hours(12);
        Due.is("a twine on a bell at noon", x.when(3, 4), 4);
        Due.is("on a warp at noon", x.when(0, 1), 0);
        Due.is("on a rope the next day", x.when(1, 0), 20);
    }

    private static void whenTarOrAGaleDecides() {
        RopeEnds x = Due.ropes(Due.ROPE, Due.ROPE);
        x.set(0, Due.TAR, 0);
        Due.is("three days' tar", x.when(0, 1), 56);
        x.set(1, Due.PRIDE, 5);
        Due.is("five days' tar", x.when(0, 1), Due.NONE);
        x.hours(3);
        Due.is("101 hours on are too many", x.when(0, 1), Due.NONE);
        x.hours(1);
        Due.is("100 hours on, and 4 tar to come", x.when(0, 1), 100);
        x.hours(1);
        x.set(0, Due.TAR, 0);
        Due.is("no more than 4 come", x.when(0, 1), Due.NONE);

        RopeEnds y = Due.ropes(Due.WARP, Due.WARP);
        y.gale(1);
        Due.is("they know each other by then", y.when(0, 1), Due.NONE);
        y.set(0, Due.LENGTH, 19);
        Due.is("too short to take hold", y.when(0, 1), 8);
    }

    private static void whenFindings() {
        RopeEnds x = Due.ropes(Due.TWINE, Due.TWINE);
        Due.store(x, "know 0 1");
        Due.is("they know each other", x.when(0, 1), Due.STATE);
        Due.is("one and the same", x.when(1, 1), Due.BEYOND);
        Due.is("none", x.when(0, 2), Due.BEYOND);
        Due.is("-1", x.when(-1, 0), Due.BEYOND);
        Due.is("status", x.status(4), 1);
    }
}
