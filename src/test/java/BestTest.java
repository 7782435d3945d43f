/** Promises 18 to 25: longest, line, bent, rounds, known, kind, fibre, hour. */
public final class BestTest {
    public static void main(String[] args) {
        longest();
        line();
        linesOfShortRopes();
        bent();
        inAGale();
        rounds();
        roundsByWhatWasKnown();
        known();
        kind();
        kindCounts();
        kindOfALaterOne();
        fibre();
        hour();
        wrongRopes();
        Due.end();
    }

    private static void longest() {
        RopeEnds x = new RopeEnds();
        Due.is("of nothing", x.longest(), Due.NONE);
        x.rope(Due.TWINE);
        Due.is("of one twine", x.longest(), 50);
        x.rope(Due.ROPE);
        x.set(1, Due.LENGTH, 70);
        Due.is("of two that don't bend", x.longest(), 70);
        Due.store(x, "know 0 1");
        Due.is("twine doesn't bend", x.longest(), 70);
        x.turn(0, Due.WARP);
        Due.is("of two", x.longest(), 118);
        Due.store(x, "rope long 100; rope long 200; know 1 2; know 1 3");
        Due.is("a star's best two arms", x.longest(), 366);
        Due.store(x, "know 0 2");
        Due.is("all in one", x.longest(), 414);
        x.forget(0, 2);
        x.set(1, Due.LENGTH, 1);
        x.set(3, Due.LENGTH, 999);
        Due.is("past a short one", x.longest(), 1096);
    }

    private static void line() {
        RopeEnds x = Due.ropes(0, 0, 0, 0, Due.TWINE);
        for (int i = 0; i < 5; i++) {
            x.set(i, Due.LENGTH, 10 << i);
        }
        Due.is("none", x.line(0, 1), Due.NONE);
        Due.store(x, "know 0 1; know 1 2; know 2 3; know 0 2; know 3 4");
        Due.is("from end to end", x.line(0, 3), 144);
        Due.is("the other way", x.line(3, 0), 144);
        Due.is("the long way round", x.line(0, 2), 66);
        Due.is("not by 3: each once", x.line(0, 1), 66);
        Due.is("through all but 3", x.line(1, 2), 66);
        Due.is("to twine", x.line(0, 4), Due.NONE);
        Due.is("from twine", x.line(4, 3), Due.NONE);
        Due.is("twine alone is longer", x.longest(), 160);
    }

    private static void linesOfShortRopes() {
        RopeEnds x = Due.ropes(0, 0, 0, 0);
        for (int i = 0; i < 4; i++) {
            x.set(i, Due.LENGTH, 1);
        }
        Due.store(x, "know 0 1; know 1 2; know 2 3");
        Due.is("of four of 1", x.line(0, 3), -2);
        Due.is("of two of 1", x.line(0, 1), 0);
        Due.is("better alone", x.longest(), 1);
        Due.is("no finding", x.status(-1), 0);
    }

    private static void bent() {
        RopeEnds x = Due.ropes(0, 0, 0, 0, 0, 0, 0, 0);
        Due.store(x, "know 0 1; know 1 2; know 2 3; know 3 4; know 4 5; know 5 6; know 6 7");
        Due.is("along all", x.bent(0, 7), 7);
        Due.is("back", x.bent(7, 0), 7);
        Due.is("next ones", x.bent(3, 4), 1);
        Due.store(x, "know 7 2");
        Due.is("a shorter way", x.bent(0, 7), 3);
        Due.is("the longest way", x.line(0, 7), 386);
        x.turn(2, Due.TWINE);
        Due.is("not by twine", x.bent(0, 7), Due.NONE);
        Due.is("not to twine", x.bent(1, 2), Due.NONE);
        Due.is("not from twine", x.bent(2, 1), Due.NONE);
        Due.is("beside it", x.bent(3, 7), 4);
    }

    private static void inAGale() {
        RopeEnds x = Due.ropes(0, 0, Due.TWINE, 0);
        x.gale(1);
        Due.is("all but twine", x.longest(), 146);
        Due.is("line", x.line(0, 3), 146);
        Due.is("bent", x.bent(0, 3), 1);
        Due.is("to twine", x.bent(0, 2), Due.NONE);
        Due.is("line to twine", x.line(0, 2), Due.NONE);
        Due.until(x, 6);
        Due.is("by day they know each other", x.now(3), 3);
        x.forget(0, 1);
        x.forget(0, 3);
        Due.is("or don't bend", x.bent(0, 3), Due.NONE);
        Due.is("longest by day", x.longest(), 98);
    }

    private static void rounds() {
        RopeEnds x = Due.ropes(0, 0, 0, 0, 0, 0, 0, 0);
        Due.store(x, "know 0 1; know 1 2; know 2 3; know 3 4; know 4 5; know 5 6");
        String before = Due.all(x);
        int[] due = {0, 1, 2, 2, 3, 3};
        for (int other = 1; other <= 6; other++) {
            Due.is("rounds(0, " + other + ")", x.rounds(0, other), due[other - 1]);
        }
        Due.is("the other way", x.rounds(6, 0), 3);
        Due.is("one whom nobody knows", x.rounds(0, 7), Due.NONE);
        Due.isSo("nothing changes", before.equals(Due.all(x)));
    }

    private static void roundsByWhatWasKnown() {
        // 0 and 2 don't meet; 1 knows both. 3 is a bell that meets 0, known by 2 alone.
        RopeEnds x = Due.ropes(Due.ROPE, Due.TWINE, Due.ROPE, Due.BELL);
        x.set(0, Due.FIBRE, 1);
        Due.store(x, "know 1 0; know 1 2; know 2 3");
        Due.is("neither meets", x.rounds(0, 2), Due.NONE);
        Due.is("by 2", x.rounds(1, 3), 1);
        Due.is("by 1 then", x.rounds(0, 3), 2);
        x.turn(2, Due.WARP);
        Due.is("one of the two meets", x.rounds(0, 2), 1);
        RopeEnds y = Due.ropes(0, 0, 0);
        Due.store(y, "know 0 2; know 1 2");
        Due.is("next ones", y.rounds(1, 0), 1);
    }

    private static void known() {
        RopeEnds x = new RopeEnds();
        Due.is("no rope", x.known(), Due.NONE);
        x.rope(0);
        Due.is("one rope", x.known(), 0);
        Due.store(x, "rope; rope; twine; know 2 3");
        Due.is("the least of two", x.known(), 2);
        Due.store(x, "know 3 1");
        Due.is("the one that knows two", x.known(), 3);
        Due.store(x, "know 0 1");
        Due.is("the least of two that know two", x.known(), 1);
    }

    private static void kind() {
        RopeEnds x = Due.ropes(Due.BELL, Due.ROPE, Due.ROPE);
        String before = Due.all(x);
        Due.is("at night but twine opens to nobody", x.kind(0), Due.TWINE);
        Due.isSo("nothing changes", before.equals(Due.all(x)));
        Due.until(x, 8);
        Due.is("a rope as well, the least", x.kind(0), Due.ROPE);
        x.set(1, Due.FIBRE, 1);
        x.set(2, Due.FIBRE, 1);
        Due.is("twine is met by its own fibre only", x.kind(0), 0);
        x.set(0, Due.FIBRE, 1);
        Due.store(x, "know 0 1; know 0 2");
        Due.is("nobody left to call", x.kind(0), 0);
        Due.is("still a bell", x.of(0, 0), Due.BELL);
    }

    private static void kindCounts() {
        // At 12 a rope is shut, a warp open; a warp and a hawser meet what is 1 off.
        RopeEnds x = Due.ropes(Due.ROPE, Due.WARP, Due.TWINE, Due.BELL);
        x.set(1, Due.FIBRE, 1);
        x.set(2, Due.FIBRE, 1);
        x.set(3, Due.FIBRE, 3);
        Due.until(x, 12);
        x.set(1, Due.TAR, 3);
        x.set(2, Due.TAR, 3);
        x.set(3, Due.TAR, 99);
        Due.is("as twine by three, as a warp by two", x.kind(0), Due.TWINE);
        x.turn(3, Due.ROPE);
        Due.is("as a warp by two, the least", x.kind(0), Due.WARP);
        x.set(1, Due.TAR, 2);
        Due.is("with too little tar twine again", x.kind(0), Due.TWINE);
        Due.until(x, 16);
        x.set(0, Due.PRIDE, 0);
        Due.is("a bell opens at 16, but twine is less", x.kind(0), Due.TWINE);
        RopeEnds y = Due.ropes(Due.TWINE, Due.TWINE);
        y.set(1, Due.FIBRE, 1);
        Due.until(y, 11);
        Due.is("a rope and a cable meet but their own", y.kind(0), Due.WARP);
        y.set(1, Due.FIBRE, 3);
        Due.is("twine meets all", y.kind(0), Due.TWINE);
    }

    private static void kindOfALaterOne() {
        RopeEnds x = Due.ropes(Due.ROPE, Due.BELL);
        Due.until(x, 8);
        Due.is("0 calls as well", x.kind(1), Due.ROPE);
        x.set(0, Due.FIBRE, 2);
        Due.is("0 meets but 2", x.kind(1), 0);
        x.set(1, Due.FIBRE, 2);
        x.set(1, Due.PRIDE, 9);
        Due.is("twine asks nothing", x.kind(1), Due.TWINE);
        Due.is("a bell and a rope never meet", x.fibre(1), 0);
        x.turn(1, Due.ROPE);
        Due.is("as a rope with 2", x.fibre(1), 2);
        Due.is("0 opens at 8", x.hour(1), 8);
    }

    private static void fibre() {
        RopeEnds x = Due.ropes(Due.ROPE, Due.ROPE, Due.WARP, Due.CABLE);
        x.set(1, Due.FIBRE, 3);
        x.set(2, Due.FIBRE, 2);
        x.set(3, Due.FIBRE, 3);
        String before = Due.all(x);
        Due.is("a rope's", x.fibre(0), 3);
        Due.isSo("nothing changes", before.equals(Due.all(x)));
        x.set(3, Due.FIBRE, 2);
        Due.is("a rope's then", x.fibre(0), 2);
        Due.store(x, "know 0 2; know 0 3");
        Due.is("whomever it knows", x.fibre(0), 2);
        x.turn(0, Due.BELL);
        Due.is("a bell's must be unlike, and a warp's near", x.fibre(0), 1);
        x.turn(0, Due.HAWSER);
        Due.is("a hawser's: it meets no 3", x.fibre(0), 2);
        x.turn(0, Due.TWINE);
        Due.is("a twine's", x.fibre(0), 2);
        x.set(2, Due.FIBRE, 0);
        x.set(3, Due.FIBRE, 1);
        Due.is("a twine's, the least of several", x.fibre(0), 1);
        x.forget(0, 2);
        Due.is("of none but one", Due.ropes(Due.ROPE).fibre(0), 0);
        RopeEnds y = Due.ropes(Due.BELL, Due.TWINE, Due.TWINE, Due.TWINE, Due.TWINE);
        for (int rope = 1; rope <= 4; rope++) {
            y.set(rope, Due.FIBRE, rope - 1);
        }
        Due.is("each of 0 to 3 shuts out one, and there is no other", y.fibre(0), 0);
    }

    private static void hour() {
        RopeEnds x = Due.ropes(Due.ROPE, Due.WARP, Due.CABLE, Due.CABLE);
        String before = Due.all(x);
        Due.is("at 9 all open", x.hour(0), 9);
        Due.isSo("nothing changes", before.equals(Due.all(x)));
        x.set(0, Due.TAR, 0);
        Due.is("whatever the tar", x.hour(0), 9);
        Due.store(x, "know 0 2; know 0 3");
        Due.is("but those that it knows", x.hour(0), 8);
        x.set(1, Due.FIBRE, 1);
        Due.is("it doesn't meet 1", x.hour(0), 0);
        x.turn(0, Due.WARP);
        Due.is("they meet each other", x.hour(0), 8);
        x.turn(1, Due.ROPE);
        Due.is("1 doesn't meet it", x.hour(0), 0);
        RopeEnds y = Due.ropes(Due.TWINE, Due.TWINE, Due.BELL);
        y.set(2, Due.FIBRE, 1);
        Due.is("a bell and a twine", y.hour(0), 9);
        y.turn(1, Due.BELL);
        y.set(1, Due.FIBRE, 1);
        y.turn(2, Due.WARP);
        y.hours(13);
        Due.is("whatever the hour is", y.hour(0), 9);
        y.forget(0, 1);
        Due.store(y, "know 0 2");
        Due.is("only a bell is left", y.hour(0), 9);
    }

    private static void wrongRopes() {
        RopeEnds x = Due.ropes(0, 0);
        int[][] wrong = {{0, 0}, {1, 1}, {0, 2}, {2, 0}, {-1, 0}, {0, -1}, {8, 1}, {33, 0},
            {Integer.MIN_VALUE, 0}, {1, Integer.MAX_VALUE}};
        for (int[] w : wrong) {
            String told = "(" + w[0] + ", " + w[1] + ")";
            Due.is("line" + told, x.line(w[0], w[1]), Due.BEYOND);
            Due.is("bent" + told, x.bent(w[0], w[1]), Due.BEYOND);
            Due.is("rounds" + told, x.rounds(w[0], w[1]), Due.BEYOND);
        }
        for (int none : new int[] {2, -1, 8, Integer.MIN_VALUE, Integer.MAX_VALUE}) {
            Due.is("kind(" + none + ")", x.kind(none), Due.BEYOND);
            Due.is("fibre(" + none + ")", x.fibre(none), Due.BEYOND);
            Due.is("hour(" + none + ")", x.hour(none), Due.BEYOND);
        }
    }
}
