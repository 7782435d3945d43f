/** The edges that the Terms name of what ropes do: to call, to present, to bend, the hours, to cut. */
final class ActsEdges {
    private static final int T = Doc.TERMS;

    private ActsEdges() {
    }

    static void run() {
        callOnAStranger();
        callMeets();
        callOpens();
        callTar();
        present();
        night();
        bends();
        tarAtMidnight();
        gripInAGale();
        gripGoesByPairs();
        morning();
        morningParts();
        hourIsOneMore();
        cutLengths();
        cutEnds();
        cutKnows();
    }

    private static void callOnAStranger() {
        Doc.says(T, "To CALL, one on another one that it doesn't KNOW:");
        RopeEnds x = Stores.at(9, 0, 0);
        x.set(0, Due.TAR, 99);
        Due.is("a stranger", x.call(0, 1), 1);
        Due.is("one that it knows", x.call(0, 1), Due.STATE);
        Due.is("one that knows it", x.call(1, 0), Due.STATE);
        x.forget(0, 1);
        Due.is("a stranger again", x.call(1, 0), 1);
    }

    private static void callMeets() {
        Doc.says(T, "if each MEETS the other one's FIBRE,");
        RopeEnds x = Stores.at(9, Due.WARP, Due.ROPE);
        x.set(0, Due.FIBRE, 1);
        Due.is("only the caller meets", x.call(0, 1), Due.STATE);
        Due.is("only the one called on meets", x.call(1, 0), Due.STATE);
        x.turn(1, Due.WARP);
        Due.is("each meets, 1 off", x.call(1, 0), 1);
        RopeEnds y = Stores.at(9, Due.WARP, Due.WARP);
        y.set(0, Due.FIBRE, 2);
        Due.is("neither meets, 2 off", y.call(0, 1), Due.STATE);
        y.set(0, Due.FIBRE, 3);
        Due.is("neither meets, 3 off", y.call(0, 1), Due.STATE);
    }

    private static void callOpens() {
        Doc.says(T, "the one called on OPENS in this HOUR,");
        for (int hour = 0; hour < 24; hour++) {
            RopeEnds x = Stores.at(hour, Due.ROPE, Due.WARP, Due.CABLE);
            x.set(0, Due.TAR, 99);
            x.set(1, Due.TAR, 99);
            x.set(2, Due.TAR, 99);
            Due.is("on a rope at " + hour, x.call(2, 0), hour >= 8 && hour <= 11 ? 1 : Due.STATE);
            Due.is("on a warp at " + hour, x.call(2, 1), hour >= 8 && hour <= 12 ? 1 : Due.STATE);
            x.forget(0, 2);
            x.forget(1, 2);
            Due.is("on a cable at " + hour, x.call(0, 2), hour == 9 || hour == 11 ? 1 : Due.STATE);
        }
    }

    private static void callTar() {
        Doc.says(T, "and the caller's TAR is what that ASKS or more: TAR is so much less, and they KNOW each other.");
        // By kind: what it asks of pride 3. The caller is a twine, which meets any; a bell shuns its own fibre.
        int[] asks = {3, 3, 6, 0, 5, 6};
        for (int kind = 0; kind < 6; kind++) {
            RopeEnds x = Stores.at(9, Due.TWINE, kind);
            x.set(1, Due.FIBRE, kind == Due.BELL ? 1 : 0);
            if (asks[kind] > 0) {
                x.set(0, Due.TAR, asks[kind] - 1);
                Due.is("1 less than kind " + kind + " asks", x.call(0, 1), Due.STATE);
                Due.is("the tar is left", x.of(0, Due.TAR), asks[kind] - 1);
            }
            x.set(0, Due.TAR, asks[kind]);
            Due.is("just what kind " + kind + " asks", x.call(0, 1), 1);
            Due.is("no tar is left", x.of(0, Due.TAR), 0);
            Due.is("they know each other", x.of(0, Due.KNOWS), 2);
            x.forget(0, 1);
            x.set(0, Due.TAR, 99);
            Due.is("more than kind " + kind + " asks", x.call(0, 1), 1);
            Due.is("the rest is left", x.of(0, Due.TAR), 99 - asks[kind]);
        }
    }

    private static void present() {
        Doc.says(T, "To PRESENT, one two others to each other that don't KNOW each other:");
        RopeEnds x = Due.ropes(0, 0, 0);
        Due.store(x, "know 0 1; know 0 2; know 1 2");
        Due.is("two that know each other", x.present(0, 1, 2), Due.STATE);
        x.forget(1, 2);
        Due.is("two that don't", x.present(0, 1, 2), 3);
        Doc.says(T, "if it KNOWS both,");
        x.forget(1, 2);
        x.forget(0, 1);
        Due.is("it knows the second only", x.present(0, 1, 2), Due.STATE);
        Due.is("it knows the first only", x.present(0, 2, 1), Due.STATE);
        x.forget(0, 2);
        Due.is("it knows neither", x.present(0, 1, 2), Due.STATE);
        Doc.says(T, "and one of these at least MEETS the other one's FIBRE: they KNOW each other.");
        RopeEnds y = Due.ropes(Due.ROPE, Due.WARP, Due.ROPE);
        y.set(1, Due.FIBRE, 1);
        Due.store(y, "know 0 1; know 0 2");
        y.image();
        Due.is("the first meets", y.present(0, 1, 2), 3);
        y.undo();
        Due.is("the second meets", y.present(0, 2, 1), 3);
        Due.is("they know each other", y.of(2, Due.KNOWS), 3);
        y.undo();
        y.set(1, Due.FIBRE, 2);
        Due.is("neither meets", y.present(0, 1, 2), Due.STATE);
        Due.is("they don't know each other", y.of(2, Due.KNOWS), 1);
    }

    private static void night() {
        Doc.says(T, "NIGHT: hours of the day from 20 on, and below 6.");
        RopeEnds x = Due.ropes(0, 0);
        x.set(0, Due.LENGTH, 19);
        for (int hour = 0; hour < 48; hour++) {
            x.gale(1);
            int h = hour % 24;
            Due.is("they bend at " + h, x.bends(0, 1), h >= 20 || h < 6 ? 1 : 0);
            x.hours(1);
        }
    }

    private static void bends() {
        Doc.says(T, "BENDS: one to another one, if neither is TWINE (KIND 3), and they KNOW each other,"
            + " or there is a GALE, at NIGHT.");
        for (int one = 0; one < 6; one++) {
            for (int other = 0; other < 6; other++) {
                RopeEnds x = Due.ropes(one, other);
                int due = one == Due.TWINE || other == Due.TWINE ? 0 : 1;
                String what = one + " to " + other;
                Due.is(what + ", strangers", x.bends(0, 1), 0);
                x.gale(1);
                Due.is(what + ", in a gale, at night", x.bends(0, 1), due);
                x.gale(0);
                Due.store(x, "know 0 1");
                Due.is(what + ", that know each other", x.bends(0, 1), due);
                Due.is(what + ", the other way", x.bends(1, 0), due);
            }
        }
    }

    private static void tarAtMidnight() {
        Doc.says(T, "An HOUR goes: at hour 0 of the day TAR of each is 1 more (99 at most).");
        RopeEnds x = Due.ropes(0, 1, 2, 3, 4, 5, 0, 0);
        x.set(6, Due.TAR, 98);
        x.set(7, Due.TAR, 99);
        for (int hour = 0; hour < 48; hour++) {
            Due.is("tar of a twine at " + hour, x.of(3, Due.TAR), hour == 0 ? 5 : hour <= 24 ? 6 : 7);
            x.hours(1);
        }
        for (int rope = 0; rope < 6; rope++) {
            Due.is("tar of each", x.of(rope, Due.TAR), 7);
        }
        Due.is("from 98", x.of(6, Due.TAR), 99);
        Due.is("from 99", x.of(7, Due.TAR), 99);
        x.hours(1);
        Due.is("the third midnight", x.of(0, Due.TAR), 8);
        Due.is("from 98 still", x.of(6, Due.TAR), 99);
    }

    private static void gripInAGale() {
        Doc.says(T, "In a GALE, at NIGHT: of ropes that are no TWINE, of a LENGTH of 20 or more,");
        for (int hour = 0; hour < 24; hour++) {
            RopeEnds x = Stores.at(hour, 0, 0);
            x.image();
            Due.is("without a gale at " + hour, x.hours(1), 0);
            x.undo();
            x.gale(1);
            Due.is("in a gale at " + hour, x.hours(1), hour >= 20 || hour < 6 ? 1 : 0);
        }
        for (int kind = 0; kind < 6; kind++) {
            RopeEnds x = Due.ropes(Due.ROPE, kind);
            x.gale(1);
            x.image();
            Due.is("kind " + kind, x.hours(1), kind == Due.TWINE ? 0 : 1);
            x.undo();
            x.set(1, Due.LENGTH, 20);
            Due.is("kind " + kind + " of 20", x.hours(1), kind == Due.TWINE ? 0 : 1);
            x.undo();
            x.set(1, Due.LENGTH, 19);
            Due.is("kind " + kind + " of 19", x.hours(1), 0);
            x.undo();
            x.set(0, Due.LENGTH, 19);
            Due.is("with one of 19", x.hours(1), 0);
        }
    }

    private static void gripGoesByPairs() {
        Doc.says(T, "the least pair (by the lesser one, then the other one) that don't KNOW each other:"
            + " they KNOW each other.");
        RopeEnds x = Due.ropes(0, 0, 0, 0);
        x.gale(1);
        // Pairs as two digits, in the order in which they come to know each other.
        int[] order = {1, 2, 3, 12, 13, 23};
        for (int i = 0; i < order.length; i++) {
            Due.is("not yet " + order[i], x.of(order[i] / 10, Due.KNOWS) >> order[i] % 10 & 1, 0);
            Due.is("one pair an hour", x.hours(1), i + 1);
            Due.is("then " + order[i], x.of(order[i] / 10, Due.KNOWS) >> order[i] % 10 & 1, 1);
        }
        RopeEnds y = Due.ropes(0, 0, 0);
        Due.store(y, "know 0 1; gale");
        Due.is("a pair that knows each other is passed over", y.hours(1), 2);
        Due.is("for the next one", y.of(0, Due.KNOWS), 6);
        Due.is("then the last", y.hours(1), 3);
        Due.is("then none is left", y.hours(1), 3);
        RopeEnds z = Stores.at(20, 0, 0, 0, 0, 0, 0, 0, 0);
        z.gale(1);
        Due.is("ten hours of a night", z.hours(10), 10);
        Due.is("0 knows all", z.of(0, Due.KNOWS), 254);
        Due.is("1 knows 0, 2, 3, 4", z.of(1, Due.KNOWS), 29);
    }

    private static void morning() {
        Doc.says(T, "In a GALE, at hour 6 of the day:");
        for (int hour = 0; hour < 24; hour++) {
            RopeEnds x = Stores.at(hour, Due.ROPE, Due.ROPE);
            x.set(0, Due.LENGTH, 1);
            x.set(0, Due.FIBRE, 1);
            Due.store(x, "know 0 1");
            x.image();
            Due.is("without a gale at " + hour, x.hours(1), 1);
            x.undo();
            x.gale(1);
            Due.is("in a gale at " + hour, x.hours(1), hour == 6 ? 0 : 1);
            Due.is("gale behind hour " + hour, x.now(2), hour == 6 ? 0 : 1);
        }
    }

    private static void morningParts() {
        Doc.says(T, "all pairs neither of which MEETS the other one's FIBRE don't KNOW each other any more, and GALE is 0.");
        RopeEnds x = Stores.at(6, Due.ROPE, Due.WARP, Due.ROPE, Due.ROPE, Due.TWINE);
        x.set(1, Due.FIBRE, 1);
        x.set(2, Due.FIBRE, 2);
        x.set(3, Due.FIBRE, 3);
        Due.store(x, "know 0 1; know 0 2; know 0 3; know 1 2; know 1 3; know 2 3; know 3 4; gale");
        Due.is("all pairs at once", x.hours(1), 3);
        Due.is("0 knows 1, who meets it", x.of(0, Due.KNOWS), 2);
        Due.is("1 knows 0, 2, who don't meet it", x.of(1, Due.KNOWS), 5);
        Due.is("2 knows 1", x.of(2, Due.KNOWS), 2);
        Due.is("3 knows 4, who meets any", x.of(3, Due.KNOWS), 16);
        Due.is("the gale is over", x.now(2), 0);
        RopeEnds y = Stores.at(5, Due.ROPE, Due.ROPE);
        y.set(0, Due.FIBRE, 3);
        y.gale(1);
        Due.is("what the last hour of a night brings", y.hours(1), 1);
        Due.is("the morning takes", y.hours(1), 0);
        y.hours(12);
        Due.is("no gale, no grip the next night", y.hours(12), 0);
    }

    private static void hourIsOneMore() {
        Doc.says(T, "HOUR is 1 more.");
        RopeEnds x = Due.ropes(0);
        for (int hour = 0; hour < 60; hour++) {
            Due.is("hour", x.now(0), hour);
            x.hours(1);
        }
        x.gale(1);
        x.hours(30);
        Due.is("in a gale, too", x.now(0), 90);
    }

    private static void cutLengths() {
        Doc.says(T, "To CUT one at a LENGTH l (below its own): it is of LENGTH l;");
        RopeEnds x = Due.ropes(Due.HAWSER);
        x.set(0, Due.LENGTH, 999);
        Due.is("at its own", x.cut(0, 999), Due.BEYOND);
        Due.is("1 below", x.cut(0, 998), 1);
        Due.is("its length", x.of(0, Due.LENGTH), 998);
        Due.is("of the rest", x.of(1, Due.LENGTH), 1);
        Due.is("at 1", x.cut(0, 1), 2);
        Due.is("its length then", x.of(0, Due.LENGTH), 1);
        Due.is("of the rest then", x.of(2, Due.LENGTH), 997);
        Due.is("at 0", x.cut(2, 0), Due.BEYOND);
        Doc.says(T, "a new ROPE of the same KIND, FIBRE, PRIDE, with no TAR, of the rest of the LENGTH, comes;");
        for (int kind = 0; kind < 6; kind++) {
            RopeEnds y = Due.ropes(0, kind);
            y.set(1, Due.FIBRE, 3);
            y.set(1, Due.PRIDE, 9);
            y.set(1, Due.TAR, 99);
            Due.is("its number", y.cut(1, 20), 2);
            int[] old = {kind, 20, 3, 9, 99};
            int[] rest = {kind, 30, 3, 9, 0};
            for (int what = 0; what <= 4; what++) {
                Due.is("of the old one " + what, y.of(1, what), old[what]);
                Due.is("of the new one " + what, y.of(2, what), rest[what]);
            }
        }
    }

    private static void cutEnds() {
        Doc.says(T, "each is the other one's END (an END that it had has none then);");
        RopeEnds x = Due.ropes(0);
        x.cut(0, 40);
        endsAre("one cut", x, 1, 0);
        x.cut(0, 30);
        endsAre("the old one again", x, 2, -1, 0);
        x.cut(2, 5);
        endsAre("the new one", x, -1, -1, 3, 2);
        x.cut(0, 10);
        endsAre("one that had none any more", x, 4, -1, 3, 2, 0);
        x.cut(1, 1);
        endsAre("another one", x, 4, 5, 3, 2, 0, 1);
        Due.is("with an end", x.count(2), 6);
    }

    private static void endsAre(String what, RopeEnds x, int... ends) {
        for (int rope = 0; rope < ends.length; rope++) {
            Due.is(what + ": end of " + rope, x.of(rope, Due.END), ends[rope]);
        }
    }

    private static void cutKnows() {
        Doc.says(T, "the new one KNOWS those that the other one KNOWS, but they don't KNOW each other.");
        RopeEnds x = Due.ropes(0, 0, 0, 0);
        x.cut(3, 25);
        Due.is("nobody", x.of(4, Due.KNOWS), 0);
        Due.store(x, "know 0 1; know 0 3");
        x.cut(0, 25);
        Due.is("those that 0 knows", x.of(5, Due.KNOWS), 10);
        Due.is("0 knows still", x.of(0, Due.KNOWS), 10);
        Due.is("1 knows both", x.of(1, Due.KNOWS), 33);
        Due.is("2 knows neither", x.of(2, Due.KNOWS), 0);
        Due.is("they don't know each other", x.bends(0, 5), 0);
        Due.is("pairs", x.now(3), 4);
        x.cut(1, 25);
        Due.is("those that 1 knows, the first and the last", x.of(6, Due.KNOWS), 33);
        Due.is("0 knows it, too", x.of(0, Due.KNOWS), 74);
    }
}
