/** The edges of promises 18 to 25: longest, line, bent, rounds, known, kind, fibre, hour. */
final class BestEdges {
    private BestEdges() {
    }

    static void run() {
        longest();
        line();
        bent();
        rounds();
        known();
        kind();
        kindOfSeveral();
        fibre();
        hour();
        hourCounts();
    }

    /** Eight ropes each of which knows the next one. */
    private static RopeEnds chain() {
        RopeEnds x = Due.ropes(0, 0, 0, 0, 0, 0, 0, 0);
        Due.store(x, "know 0 1; know 1 2; know 2 3; know 3 4; know 4 5; know 5 6; know 6 7");
        return x;
    }

    private static RopeEnds lengths(RopeEnds x, int... lengths) {
        for (int rope = 0; rope < lengths.length; rope++) {
            x.set(rope, Due.LENGTH, lengths[rope]);
        }
        return x;
    }

    private static void longest() {
        Doc.says(18, "The greatest LENGTH of a LINE now (of one rope at least).");
        Twin.tells("three of the busy store", Stores::busy, x -> x.longest(), 30 + 50 + 50 - 4);
        Twin.tells("all of a chain", BestEdges::chain, x -> x.longest(), 400 - 14);
        Due.is("one rope alone", lengths(Due.ropes(0), 1).longest(), 1);
        Due.is("one twine alone", lengths(Due.ropes(3), 999).longest(), 999);
        Due.is("the longer of two strangers", lengths(Due.ropes(0, 0), 49, 50).longest(), 50);
        Due.is("one that is longer than a line", lengths(Due.ropes(0, 0, 3), 50, 50, 99).longest(), 99);
        RopeEnds x = lengths(chain(), 1, 1, 1, 1, 1, 1, 1, 1);
        Due.is("one alone, where each bend takes more than a rope has", x.longest(), 1);
        lengths(x, 2, 2);
        Due.is("a bend takes what a rope of 2 has", x.longest(), 2);
        lengths(x, 3, 3);
        Due.is("a rope of 3 brings 1", x.longest(), 4);
        lengths(x, 10, 1, 10);
        Due.is("past one of 1", x.longest(), 17);
        Due.is("in a gale, now", inAGale(0).longest(), 98);
        Due.is("in a gale, not now", inAGale(6).longest(), 50);
        Doc.says(18, "NONE: there is none.");
        Twin.refuses("no rope", Stores::empty, y -> y.longest(), Due.NONE);
    }

    private static RopeEnds inAGale(int hour) {
        RopeEnds x = Stores.at(hour, 0, 0);
        x.gale(1);
        return x;
    }

    private static void line() {
        Doc.says(19, "The greatest LENGTH of a LINE from one to another one now.");
        Twin.tells("by one", Stores::busy, x -> x.line(0, 2), 126);
        Twin.tells("back", Stores::busy, x -> x.line(2, 0), 126);
        Twin.tells("no further than that one", Stores::busy, x -> x.line(0, 1), 78);
        Twin.tells("the whole chain", BestEdges::chain, x -> x.line(0, 7), 386);
        RopeEnds ring = chain();
        Due.store(ring, "know 0 7");
        Due.is("the long way round", ring.line(0, 7), 386);
        Due.is("the longer of two ways", ring.line(0, 3), 6 * 50 - 10);
        lengths(ring, 50, 1, 1, 50, 1, 1, 1, 1);
        Due.is("the fewer bends of two ways", ring.line(0, 3), 102 - 6);
        lengths(ring, 1, 1, 1, 1, 1, 1, 1, 1);
        Due.is("below 0 is a length, too", ring.line(0, 4), 5 - 8);
        Due.is("no finding", ring.status(-1), 0);
        lineNow();
        Doc.says(19, "BEYOND: also one and the same.");
        for (int[] no : Stores.noPairs(Stores.BUSY)) {
            Twin.refuses("line(" + no[0] + ", " + no[1] + ")", Stores::busy, x -> x.line(no[0], no[1]), Due.BEYOND);
        }
        Doc.says(19, "NONE.");
        Twin.refuses("to a stranger", Stores::busy, x -> x.line(0, 4), Due.NONE);
        Twin.refuses("to a twine", Stores::busy, x -> x.line(0, 3), Due.NONE);
        Twin.refuses("in a gale, by day", () -> inAGale(6), x -> x.line(0, 1), Due.NONE);
        Due.is("in a gale, at night", inAGale(5).line(0, 1), 98);
    }

    /** What was asked before is no matter. */
    private static void lineNow() {
        RopeEnds x = chain();
        Due.is("all of a chain", x.longest(), 386);
        Due.is("its ends", x.line(0, 7), 386);
        x.forget(3, 4);
        Due.is("its halves, then", x.longest(), 194);
        Due.is("no line of both any more", x.line(0, 7), Due.NONE);
        Due.is("from end to end of a half", x.line(0, 3), 194);
        Due.is("not to one ahead of where it begins", x.line(3, 2), 98);
        x.turn(1, Due.TWINE);
        Due.is("not by a twine", x.line(0, 3), Due.NONE);
        Due.is("the other half", x.longest(), 194);
        Due.is("all that is left of this one", x.line(3, 2), 98);
    }

    private static void bent() {
        Doc.says(20, "The fewest BENDS of a LINE from one to another one now.");
        Twin.tells("one", Stores::busy, x -> x.bent(0, 1), 1);
        Twin.tells("two", Stores::busy, x -> x.bent(0, 2), 2);
        Twin.tells("seven", BestEdges::chain, x -> x.bent(0, 7), 7);
        Twin.tells("seven back", BestEdges::chain, x -> x.bent(7, 0), 7);
        RopeEnds ring = chain();
        Due.store(ring, "know 0 7");
        Due.is("the short way round", ring.bent(0, 7), 1);
        Due.is("the fewer of two ways", ring.bent(1, 6), 3);
        Due.is("as many on two ways", ring.bent(0, 4), 4);
        ring.turn(7, Due.TWINE);
        Due.is("not by a twine", ring.bent(0, 6), 6);
        ring.forget(3, 4);
        Due.is("nor by two that have forgotten each other", ring.bent(0, 6), Due.NONE);
        Doc.says(20, "BEYOND: also one and the same.");
        for (int[] no : Stores.noPairs(Stores.BUSY)) {
            Twin.refuses("bent(" + no[0] + ", " + no[1] + ")", Stores::busy, x -> x.bent(no[0], no[1]), Due.BEYOND);
        }
        Doc.says(20, "NONE.");
        Twin.refuses("to a stranger", Stores::busy, x -> x.bent(0, 4), Due.NONE);
        Twin.refuses("to a twine", Stores::busy, x -> x.bent(0, 3), Due.NONE);
        Twin.refuses("in a gale, by day", () -> inAGale(19), x -> x.bent(0, 1), Due.NONE);
        Due.is("in a gale, at night", inAGale(20).bent(0, 1), 1);
    }

    private static void rounds() {
        Doc.says(21, "In how few ROUNDS two KNOW each other (0: now):");
        Twin.tells("now", Stores::busy, x -> x.rounds(0, 1), 0);
        Twin.tells("in one", Stores::busy, x -> x.rounds(0, 2), 1);
        Twin.tells("the other way", Stores::busy, x -> x.rounds(2, 0), 1);
        Doc.says(21, "in a ROUND all that can be PRESENTED to each other are, by all who KNOW both as the ROUND began.");
        int[] due = {0, 1, 2, 2, 3, 3, 3};
        for (int other = 1; other <= 7; other++) {
            int o = other;
            Twin.tells("from end to " + other, BestEdges::chain, x -> x.rounds(0, o), due[other - 1]);
            Twin.tells("back from " + other, BestEdges::chain, x -> x.rounds(o, 0), due[other - 1]);
        }
        // 0, 1, 2, 3 know each other in a row; of 0 and 2 only 2, a warp, meets the other one.
        RopeEnds x = Due.ropes(Due.ROPE, Due.TWINE, Due.WARP, Due.ROPE);
        x.set(2, Due.FIBRE, 1);
        Due.store(x, "know 0 1; know 1 2; know 2 3");
        Due.is("by 1: one of these meets", x.rounds(0, 2), 1);
        Due.is("not by 2 in the same round", x.rounds(0, 3), 2);
        x.turn(2, Due.ROPE);
        Due.is("by 1 alone, who comes to know 3", x.rounds(0, 3), 2);
        Due.is("neither meets", x.rounds(0, 2), Due.NONE);
        RopeEnds byTheLast = Due.ropes(0, 0, 0);
        Due.store(byTheLast, "know 0 2; know 1 2");
        Due.is("two that are next to each other", byTheLast.rounds(0, 1), 1);
        byTheLast.forget(0, 2);
        Due.is("whom nobody can present then", byTheLast.rounds(0, 1), Due.NONE);
        Doc.says(21, "BEYOND: also one and the same.");
        for (int[] no : Stores.noPairs(Stores.BUSY)) {
            Twin.refuses("rounds(" + no[0] + ", " + no[1] + ")", Stores::busy, y -> y.rounds(no[0], no[1]), Due.BEYOND);
        }
        Doc.says(21, "NONE.");
        Twin.refuses("one that knows nobody", Stores::busy, y -> y.rounds(0, 4), Due.NONE);
        Twin.refuses("two whom nobody knows", Stores::full, y -> y.rounds(6, 7), Due.NONE);
    }

    private static void known() {
        Doc.says(22, "The one that KNOWS most others; of several the least.");
        Twin.tells("1 knows three", Stores::busy, x -> x.known(), 1);
        Twin.tells("the least of those that know two", BestEdges::chain, x -> x.known(), 1);
        Due.is("one rope", Due.ropes(3).known(), 0);
        Due.is("nobody knows anybody", Due.ropes(0, 0, 0).known(), 0);
        RopeEnds x = Due.ropes(0, 0, 0, 0, 0, 0, 0, 0);
        Due.store(x, "know 6 7");
        Due.is("the least of two", x.known(), 6);
        Due.store(x, "know 7 5");
        Due.is("the last one", x.known(), 7);
        Due.store(x, "know 0 1");
        Due.is("the last one still", x.known(), 7);
        Due.store(x, "know 0 2");
        Due.is("the first one", x.known(), 0);
        x.forget(0, 1);
        Due.is("the last one again", x.known(), 7);
        RopeEnds byCall = Stores.at(9, 0, 0, 0);
        byCall.call(1, 2);
        Due.is("by a call", byCall.known(), 1);
        byCall.rope(3);
        byCall.call(3, 2);
        Due.is("by two calls", byCall.known(), 2);
        Doc.says(22, "NONE: there is no rope.");
        Twin.refuses("no rope", Stores::empty, y -> y.known(), Due.NONE);
    }

    private static void kind() {
        Doc.says(23, "The KIND as one of which most others could CALL on a ROPE now;");
        // At 7 but a twine opens; at 8 the forenoon begins; a cable and a bell open at 9.
        Due.is("at 7", Stores.at(7, 0, 0).kind(0), Due.TWINE);
        Due.is("at 8", Stores.at(8, 5, 0).kind(0), Due.ROPE);
        Due.is("at 11", Stores.at(11, 5, 0).kind(0), Due.ROPE);
        Due.is("at 12", Stores.at(12, 5, 0).kind(0), Due.WARP);
        Due.is("at 13", Stores.at(13, 5, 0).kind(0), Due.TWINE);
        RopeEnds x = Stores.at(9, Due.ROPE, Due.WARP);
        x.set(1, Due.FIBRE, 1);
        Due.is("a warp meets 1 off", x.kind(0), Due.WARP);
        x.turn(1, Due.TWINE);
        x.set(1, Due.FIBRE, 2);
        Due.is("a twine and a bell meet 2 off", x.kind(0), Due.TWINE);
        x.set(0, Due.PRIDE, 7);
        x.set(1, Due.FIBRE, 0);
        Due.is("a rope of pride 7 asks too much of 6", x.kind(0), Due.TWINE);
        x.set(1, Due.TAR, 7);
        Due.is("not of 7", x.kind(0), Due.ROPE);
        Due.store(x, "know 0 1");
        Due.is("one that it knows can't call", x.kind(0), Due.ROPE);
        RopeEnds y = Stores.at(9, 0, 0, 3, 3);
        y.set(2, Due.FIBRE, 1);
        y.set(3, Due.FIBRE, 3);
        Due.is("as a rope one, as a warp two, as a twine three", y.kind(0), Due.TWINE);
        RopeEnds last = Stores.at(12, 0, 0);
        Due.is("0 can call, too", last.kind(1), Due.WARP);
        Twin.tells("of the busy store's 0, to whom 5 comes without tar", Stores::busy, z -> z.kind(0), Due.TWINE);
    }

    private static void kindOfSeveral() {
        Doc.says(23, "of several the least.");
        Due.is("nobody else", Due.ropes(5).kind(0), 0);
        Due.is("nobody can", ownFibre(2, 1).kind(1), 0);
        Due.is("all can", Stores.at(9, 3, 3).kind(0), 0);
        RopeEnds x = Stores.at(9, Due.BELL, Due.TWINE);
        x.set(1, Due.FIBRE, 2);
        Due.is("a twine and a bell", x.kind(0), Due.TWINE);
        Doc.says(23, "BEYOND.");
        for (int none : Stores.noRopes(Stores.BUSY)) {
            Twin.refuses("kind(" + none + ")", Stores::busy, y -> y.kind(none), Due.BEYOND);
        }
    }

    /** Two plain ropes of fibres of their own, in the forenoon. */
    private static RopeEnds ownFibre(int one, int other) {
        RopeEnds x = Stores.at(9, 0, 0);
        x.set(0, Due.FIBRE, one);
        x.set(1, Due.FIBRE, other);
        return x;
    }

    private static void fibre() {
        Doc.says(24, "The FIBRE (0 to 3) with which a ROPE and most others MEET each other;");
        for (int fibre = 0; fibre <= 3; fibre++) {
            Due.is("as the other one's", ownFibre(0, fibre).fibre(0), fibre);
        }
        // By the fibres of two twines, the one that a warp, a hawser, a bell should have.
        int[][] due = {{0, 0, 0, 0, 1}, {0, 1, 0, 0, 2}, {1, 2, 1, 1, 0}, {2, 3, 2, 1, 0}, {3, 3, 2, 0, 0}, {0, 3, 0, 0, 1}};
        for (int[] d : due) {
            RopeEnds x = Due.ropes(Due.WARP, Due.TWINE, Due.TWINE);
            x.set(1, Due.FIBRE, d[0]);
            x.set(2, Due.FIBRE, d[1]);
            String what = " with " + d[0] + ", " + d[1];
            Due.is("a warp" + what, x.fibre(0), d[2]);
            x.turn(0, Due.HAWSER);
            Due.is("a hawser" + what, x.fibre(0), d[3]);
            x.turn(0, Due.BELL);
            Due.is("a bell" + what, x.fibre(0), d[4]);
        }
        Due.is("0's fibre counts, too", ownFibre(3, 1).fibre(1), 3);
        Twin.tells("of the busy store's 1, which most must meet", Stores::busy, x -> x.fibre(1), 0);
        Twin.tells("of its bell, which but 1 and the twine meet", Stores::busy, x -> x.fibre(4), 2);
        Doc.says(24, "of several the least.");
        Due.is("nobody else", Due.ropes(0).fibre(0), 0);
        Due.is("with any fibre", Due.ropes(3, 3).fibre(0), 0);
        Due.is("with none", Due.ropes(5, 0).fibre(0), 0);
        RopeEnds all = Due.ropes(Due.BELL, Due.TWINE, Due.TWINE, Due.TWINE, Due.TWINE);
        for (int rope = 1; rope <= 4; rope++) {
            all.set(rope, Due.FIBRE, rope - 1);
        }
        Due.is("each of 0 to 3 shuts out one, and there is no other", all.fibre(0), 0);
        RopeEnds x = Due.ropes(0, 0, 0);
        x.set(1, Due.FIBRE, 3);
        x.set(2, Due.FIBRE, 2);
        Due.is("one with 2, one with 3", x.fibre(0), 2);
        Doc.says(24, "BEYOND.");
        for (int none : Stores.noRopes(Stores.BUSY)) {
            Twin.refuses("fibre(" + none + ")", Stores::busy, y -> y.fibre(none), Due.BEYOND);
        }
    }

    private static void hour() {
        Doc.says(25, "The hour of the day (0 to 23) in which most others OPEN to one that calls as it is");
        int[] first = {8, 8, 9, 0, 8, 9};
        for (int kind = 0; kind < 6; kind++) {
            RopeEnds x = Due.ropes(Due.TWINE, kind);
            x.set(1, Due.FIBRE, 1);
            x.set(0, Due.FIBRE, kind == Due.BELL ? 0 : 1);
            Due.is("on kind " + kind, x.hour(0), first[kind]);
            x.hours(23);
            Due.is("on kind " + kind + " at 23", x.hour(0), first[kind]);
        }
        RopeEnds x = Due.ropes(0, 1, 1, 4, 2);
        Due.is("at 9 a cable, too", x.hour(0), 9);
        x.turn(4, Due.TWINE);
        Due.is("at 8 all the others", x.hour(0), 8);
        Due.is("0 opens, too", Due.ropes(0, 0).hour(1), 8);
        Doc.says(25, "of several the least.");
        Due.is("nobody else", Due.ropes(0).hour(0), 0);
        Due.is("twines open always", Due.ropes(0, 3, 3).hour(0), 0);
        Due.is("the first of the forenoon", Due.ropes(0, 0).hour(0), 8);
        Doc.says(25, "BEYOND.");
        for (int none : Stores.noRopes(Stores.BUSY)) {
            Twin.refuses("hour(" + none + ")", Stores::busy, y -> y.hour(none), Due.BEYOND);
        }
    }

    private static void hourCounts() {
        Doc.says(25, "(whom it doesn't KNOW, who MEETS its FIBRE and whose FIBRE it MEETS, whatever the TAR);");
        RopeEnds x = Due.ropes(Due.ROPE, Due.CABLE, Due.ROPE);
        Due.is("a cable and a rope", x.hour(0), 9);
        Due.store(x, "know 0 1");
        Due.is("but not one that it knows", x.hour(0), 8);
        x.forget(0, 1);
        x.set(1, Due.FIBRE, 1);
        Due.is("nor one that doesn't meet it", x.hour(0), 8);
        x.turn(0, Due.TWINE);
        Due.is("though it meets that one", x.hour(0), 8);
        x.turn(1, Due.BELL);
        Due.is("a bell does", x.hour(0), 9);
        x.turn(0, Due.ROPE);
        Due.is("but it doesn't meet the bell's", x.hour(0), 8);
        x.turn(0, Due.TWINE);
        x.set(0, Due.TAR, 0);
        Due.is("without tar", x.hour(0), 9);
        Twin.tells("of the busy store's 5, without tar", Stores::busy, y -> y.hour(5), 9);
    }
}
