/** The edges of promises 8 to 12: call, present, forget, cut, bends. */
final class CallsEdges {
    private CallsEdges() {
    }

    static void run() {
        call();
        callCantBe();
        present();
        presentCantBe();
        forget();
        cut();
        bends();
    }

    private static void call() {
        Doc.says(8, "One CALLS on another one: how many that one KNOWS then.");
        RopeEnds x = Stores.at(9, 3, 3, 3, 3, 3, 3, 3, 0);
        for (int caller = 0; caller < 7; caller++) {
            Due.is("caller " + caller, x.call(caller, 7), caller + 1);
        }
        Due.is("all seven", x.of(7, Due.KNOWS), 127);
        Due.is("each knows but one", x.of(6, Due.KNOWS), 128);
        Due.is("by one that knows one", x.call(0, 1), 2);
        Due.is("by one that knows two", x.call(0, 2), 2);
        Doc.says(8, "BEYOND: also one and the same.");
        for (int[] no : Stores.noPairs(Stores.BUSY)) {
            Twin.refuses("call(" + no[0] + ", " + no[1] + ")", Stores::busy, y -> y.call(no[0], no[1]), Due.BEYOND);
        }
    }

    private static void callCantBe() {
        Doc.says(8, "STATE: it can't be (also if they KNOW each other).");
        Twin.refuses("they know each other", Stores::busy, x -> x.call(0, 1), Due.STATE);
        Twin.refuses("the other way", Stores::busy, x -> x.call(1, 0), Due.STATE);
        Twin.refuses("the caller doesn't meet", Stores::busy, x -> x.call(4, 3), Due.STATE);
        Twin.refuses("the one called on doesn't meet", Stores::busy, x -> x.call(3, 4), Due.STATE);
        Twin.refuses("too little tar", Stores::busy, x -> x.call(0, 2), Due.STATE);
        Twin.refuses("no tar", Stores::busy, x -> x.call(5, 0), Due.STATE);
        Twin.refuses("not open", () -> Stores.at(7, 0, 0), x -> x.call(0, 1), Due.STATE);
        Twin.refuses("not open any more", () -> Stores.at(12, 0, 0), x -> x.call(0, 1), Due.STATE);
        Twin.refuses("not at night, in a gale", () -> gale(0, 0), x -> x.call(0, 1), Due.STATE);
        Due.is("it can be at 8", Stores.at(8, 0, 0).call(0, 1), 1);
        Due.is("it can be at 11", Stores.at(11, 0, 0).call(0, 1), 1);
        Due.is("it can be by day, in a gale", Stores.busy().call(2, 0), 2);
        Due.is("with no tar on a twine", Stores.busy().call(5, 3), 1);
    }

    private static RopeEnds gale(int... kinds) {
        RopeEnds x = Due.ropes(kinds);
        x.gale(1);
        return x;
    }

    private static void present() {
        Doc.says(9, "One PRESENTS two others to each other: how many pairs KNOW each other then.");
        RopeEnds x = Due.ropes(0, 0, 0, 0, 0, 0, 0, 0);
        for (int other = 0; other < 7; other++) {
            Due.store(x, "know 7 " + other);
        }
        int pairs = 7;
        for (int one = 0; one < 7; one++) {
            for (int other = one + 1; other < 7; other++) {
                pairs++;
                Due.is("present " + one + ", " + other, x.present(7, one, other), pairs);
            }
        }
        Due.is("all pairs", pairs, 28);
        Doc.says(9, "BEYOND: also two that are the same.");
        for (int[] no : Stores.noPairs(Stores.BUSY)) {
            String told = no[0] + ", " + no[1];
            Twin.refuses("present(1, " + told + ")", Stores::busy, y -> y.present(1, no[0], no[1]), Due.BEYOND);
            Twin.refuses("present(" + told + ", 1)", Stores::busy, y -> y.present(no[0], no[1], 1), Due.BEYOND);
            Twin.refuses("first and last: " + told, Stores::busy, y -> y.present(no[0], 1, no[1]), Due.BEYOND);
        }
    }

    private static void presentCantBe() {
        Doc.says(9, "STATE: it can't be (also if they KNOW each other).");
        Twin.refuses("it knows the one alone", Stores::busy, x -> x.present(0, 1, 3), Due.STATE);
        Twin.refuses("it knows the other alone", Stores::busy, x -> x.present(0, 3, 1), Due.STATE);
        Twin.refuses("it knows neither", Stores::busy, x -> x.present(3, 0, 2), Due.STATE);
        Twin.refuses("they know each other", CallsEdges::threeFriends, x -> x.present(2, 0, 1), Due.STATE);
        Twin.refuses("neither meets", CallsEdges::neitherMeets, x -> x.present(0, 1, 2), Due.STATE);
        Due.is("it can be", Stores.busy().present(1, 0, 2), 4);
        Due.is("without tar, at any hour", Stores.busy().present(1, 5, 2), 4);
    }

    private static RopeEnds threeFriends() {
        RopeEnds x = Due.ropes(0, 0, 0);
        Due.store(x, "know 0 1; know 0 2; know 1 2");
        return x;
    }

    private static RopeEnds neitherMeets() {
        RopeEnds x = Due.ropes(0, 0, 0);
        x.set(2, Due.FIBRE, 1);
        Due.store(x, "know 0 1; know 0 2");
        return x;
    }

    private static void forget() {
        Doc.says(10, "Two don't KNOW each other any more: 1 if they did, else 0.");
        RopeEnds x = Due.ropes(0, 0, 0, 0, 0, 0, 0, 0);
        Due.store(x, "know 0 7; know 0 6; know 7 6");
        Due.is("they did", x.forget(0, 7), 1);
        Due.is("they don't any more", x.forget(0, 7), 0);
        Due.is("nor the other way", x.forget(7, 0), 0);
        Due.is("0 knows 6 still", x.of(0, Due.KNOWS), 64);
        Due.is("7 knows 6 still", x.of(7, Due.KNOWS), 64);
        Due.is("the other way round", x.forget(7, 6), 1);
        Due.is("6 knows 0 still", x.of(6, Due.KNOWS), 1);
        Twin.tells("two that didn't", Stores::busy, y -> y.forget(0, 2), 0);
        Doc.says(10, "BEYOND: also one and the same.");
        for (int[] no : Stores.noPairs(Stores.BUSY)) {
            Twin.refuses("forget(" + no[0] + ", " + no[1] + ")", Stores::busy, y -> y.forget(no[0], no[1]), Due.BEYOND);
        }
    }

    private static void cut() {
        Doc.says(11, "One is CUT: the number of the new ROPE.");
        RopeEnds x = Due.ropes(0);
        for (int number = 1; number < 8; number++) {
            Due.is("number", x.cut(0, 50 - number), number);
            Due.is("a rest of 1", x.of(number, Due.LENGTH), 1);
        }
        Doc.says(11, "BEYOND: rope, l (1 at least, below its LENGTH).");
        for (int none : Stores.noRopes(Stores.BUSY)) {
            Twin.refuses("rope " + none, Stores::busy, y -> y.cut(none, 1), Due.BEYOND);
        }
        for (int l : new int[] {0, -1, 30, 31, 50, 999, Stores.MIN, Stores.MAX}) {
            Twin.refuses("at " + l, Stores::busy, y -> y.cut(0, l), Due.BEYOND);
            Twin.refuses("at " + l + " for a ninth", Stores::full, y -> y.cut(0, l), Due.BEYOND);
        }
        Due.is("at 1", Stores.busy().cut(0, 1), 6);
        Due.is("1 below", Stores.busy().cut(0, 29), 6);
        Twin.refuses("one of 1 at 1", CallsEdges::ofLengthOne, y -> y.cut(0, 1), Due.BEYOND);
        Twin.refuses("one of 1 at 0", CallsEdges::ofLengthOne, y -> y.cut(0, 0), Due.BEYOND);
        Doc.says(11, "FULL.");
        Twin.refuses("a ninth at 1", Stores::full, y -> y.cut(0, 1), Due.FULL);
        Twin.refuses("a ninth at 29", Stores::full, y -> y.cut(0, 29), Due.FULL);
        Twin.refuses("a ninth of the last", Stores::full, y -> y.cut(7, 49), Due.FULL);
    }

    private static RopeEnds ofLengthOne() {
        RopeEnds x = Due.ropes(0, 0);
        x.set(0, Due.LENGTH, 1);
        return x;
    }

    private static void bends() {
        Doc.says(12, "1 if one BENDS to another one now, else 0.");
        Twin.tells("two that know each other", Stores::busy, x -> x.bends(0, 1), 1);
        Twin.tells("two that don't, in a gale, by day", Stores::busy, x -> x.bends(0, 2), 0);
        Twin.tells("the last two", Stores::full, x -> x.bends(6, 7), 0);
        Twin.tells("in a gale, at night", () -> gale(0, 0), x -> x.bends(1, 0), 1);
        Twin.tells("twine", () -> gale(0, 3), x -> x.bends(1, 0), 0);
        RopeEnds x = Stores.at(5, 0, 0);
        x.set(0, Due.LENGTH, 1);
        x.gale(1);
        Due.is("now, at 5", x.bends(0, 1), 1);
        x.hours(1);
        Due.is("not at 6", x.bends(0, 1), 0);
        Doc.says(12, "BEYOND: also one and the same.");
        for (int[] no : Stores.noPairs(Stores.BUSY)) {
            Twin.refuses("bends(" + no[0] + ", " + no[1] + ")", Stores::busy, y -> y.bends(no[0], no[1]), Due.BEYOND);
        }
    }
}
