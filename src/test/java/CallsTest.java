/** Promises 8 to 12: call, present, forget, cut, bends. */
public final class CallsTest {
    public static void main(String[] args) {
        call();
        callOnABell();
        whatStopsACall();
        present();
        forget();
        cut();
        cutEnds();
        cutFindings();
        bends();
        bendsInAGale();
        wrongRopes();
        Due.end();
    }

    private static void call() {
        RopeEnds x = Due.ropes(Due.ROPE, Due.CABLE, Due.ROPE);
        Due.until(x, 9);
        Due.is("tar of the caller", x.of(0, Due.TAR), 6);
        Due.is("call on a cable", x.call(0, 1), 1);
        Due.is("tar is less by what it asks", x.of(0, Due.TAR), 0);
        Due.is("tar of the one called on", x.of(1, Due.TAR), 6);
        Due.is("0 knows", x.of(0, Due.KNOWS), 2);
        Due.is("1 knows", x.of(1, Due.KNOWS), 1);
        Due.is("once more", x.call(0, 1), Due.STATE);
        Due.is("the other way", x.call(1, 0), Due.STATE);
        Due.is("a second caller", x.call(2, 1), 2);
        Due.is("the caller knows but one", x.of(2, Due.KNOWS), 2);
    }

    private static void callOnABell() {
        RopeEnds x = Due.ropes(Due.BELL, Due.WARP, Due.ROPE);
        Due.store(x, "know 0 2");
        x.set(1, Due.FIBRE, 1);
        x.set(1, Due.TAR, 5);
        Due.until(x, 11);
        x.set(1, Due.TAR, 5);
        Due.is("a bell that knows one asks", x.of(0, Due.ASKS), 5);
        Due.is("call on it", x.call(1, 0), 2);
        Due.is("tar paid by what it asked before", x.of(1, Due.TAR), 0);
        Due.is("then it asks less", x.of(0, Due.ASKS), 4);
    }

    private static void whatStopsACall() {
        RopeEnds x = Due.ropes(Due.ROPE, Due.ROPE);
        Due.is("not open", x.call(0, 1), Due.STATE);
        Due.until(x, 8);
        x.set(0, Due.TAR, 2);
        Due.is("too little tar", x.call(0, 1), Due.STATE);
        Due.is("tar is left", x.of(0, Due.TAR), 2);
        x.set(0, Due.TAR, 3);
        Due.is("just enough tar", x.call(0, 1), 1);

        RopeEnds y = Due.ropes(Due.WARP, Due.ROPE);
        y.set(0, Due.FIBRE, 1);
        Due.until(y, 8);
        Due.is("meets 0 1", y.meets(0, 1), 1);
        Due.is("meets 1 0", y.meets(1, 0), 0);
        Due.is("the one called on doesn't meet the caller", y.call(0, 1), Due.STATE);
        Due.is("the caller doesn't meet it", y.call(1, 0), Due.STATE);
        Due.is("nobody knows anybody", y.now(3), 0);

        RopeEnds z = Due.ropes(Due.WARP, Due.ROPE);
        Due.until(z, 12);
        Due.is("only the one called on must open: it doesn't", z.call(0, 1), Due.STATE);
        Due.is("only the one called on must open: it does", z.call(1, 0), 1);
    }

    private static void present() {
        RopeEnds x = Due.ropes(Due.ROPE, Due.WARP, Due.ROPE, Due.ROPE);
        Due.store(x, "know 0 1; know 0 2");
        x.set(1, Due.FIBRE, 1);
        Due.is("only one of the two meets", x.meets(1, 2) * 2 + x.meets(2, 1), 2);
        Due.is("present", x.present(0, 2, 1), 3);
        Due.is("1 knows", x.of(1, Due.KNOWS), 5);
        Due.is("2 knows", x.of(2, Due.KNOWS), 3);
        Due.is("they know each other", x.present(0, 1, 2), Due.STATE);
        Due.is("it knows one only", x.present(0, 1, 3), Due.STATE);
        Due.is("it knows the other only", x.present(0, 3, 1), Due.STATE);
        x.forget(1, 2);
        x.set(1, Due.FIBRE, 2);
        Due.is("neither meets", x.present(0, 1, 2), Due.STATE);
        Due.is("pairs", x.now(3), 2);
        x.set(1, Due.FIBRE, 1);
        Due.is("tar isn't asked", x.set(1, Due.TAR, 0), 5);
        Due.is("at any hour", x.present(0, 1, 2), 3);
        Due.is("two the same: 0 0", x.present(0, 0, 1), Due.BEYOND);
        Due.is("two the same: 0 2", x.present(0, 1, 0), Due.BEYOND);
        Due.is("two the same: 1 2", x.present(0, 1, 1), Due.BEYOND);
        Due.is("none presents", x.present(4, 0, 1), Due.BEYOND);
        Due.is("one is none", x.present(0, 4, 1), Due.BEYOND);
        Due.is("the other is none", x.present(0, 1, -1), Due.BEYOND);
    }

    private static void forget() {
        RopeEnds x = Due.ropes(0, 0, 0);
        Due.store(x, "know 0 1; know 1 2");
        Due.is("forget", x.forget(1, 0), 1);
        Due.is("0 knows", x.of(0, Due.KNOWS), 0);
        Due.is("1 knows", x.of(1, Due.KNOWS), 4);
        Due.is("forget again", x.forget(0, 1), 0);
        Due.is("pairs", x.now(3), 1);
    }

    private static void cut() {
        RopeEnds x = Due.ropes(Due.ROPE, Due.HAWSER, Due.ROPE, Due.ROPE);
        x.set(1, Due.LENGTH, 100);
        x.set(1, Due.FIBRE, 2);
        x.set(1, Due.PRIDE, 8);
        x.set(1, Due.TAR, 44);
        Due.store(x, "know 1 0; know 1 3; know 2 3");
        Due.is("cut", x.cut(1, 30), 4);
        int[] old = {Due.HAWSER, 30, 2, 8, 44, 4, 9};
        int[] rest = {Due.HAWSER, 70, 2, 8, 0, 1, 9};
        for (int what = 0; what <= 6; what++) {
            Due.is("the old one's " + what, x.of(1, what), old[what]);
            Due.is("the new one's " + what, x.of(4, what), rest[what]);
        }
        Due.is("0 knows both", x.of(0, Due.KNOWS), 18);
        Due.is("2 knows neither", x.of(2, Due.KNOWS), 8);
        Due.is("3 knows both", x.of(3, Due.KNOWS), 22);
        Due.is("they don't know each other", x.forget(1, 4), 0);
        Due.is("all lengths", x.now(4), 250);
    }

    private static void cutEnds() {
        RopeEnds x = Due.ropes(0);
        Due.is("cut", x.cut(0, 49), 1);
        Due.is("cut again", x.cut(0, 1), 2);
        Due.is("length", x.of(2, Due.LENGTH), 48);
        Due.is("the first rest has no end any more", x.of(1, Due.END), -1);
        Due.is("0's end", x.of(0, Due.END), 2);
        Due.is("2's end", x.of(2, Due.END), 0);
        Due.is("cut the rest", x.cut(2, 10), 3);
        Due.is("0 has no end", x.of(0, Due.END), -1);
        Due.is("2's new end", x.of(2, Due.END), 3);
        Due.is("3's end", x.of(3, Due.END), 2);
        Due.is("cut one without end", x.cut(3, 10), 4);
        Due.is("2 has no end", x.of(2, Due.END), -1);
        Due.is("with an end", x.count(2), 2);
    }

    private static void cutFindings() {
        RopeEnds x = Due.ropes(0, 0, 0, 0, 0, 0, 0);
        Due.is("at 0", x.cut(0, 0), Due.BEYOND);
        Due.is("at -1", x.cut(0, -1), Due.BEYOND);
        Due.is("at MIN", x.cut(0, Integer.MIN_VALUE), Due.BEYOND);
        Due.is("at its length", x.cut(0, 50), Due.BEYOND);
        Due.is("at MAX", x.cut(0, Integer.MAX_VALUE), Due.BEYOND);
        Due.is("none", x.cut(7, 1), Due.BEYOND);
        Due.is("-1", x.cut(-1, 1), Due.BEYOND);
        x.set(0, Due.LENGTH, 1);
        Due.is("of length 1", x.cut(0, 1), Due.BEYOND);
        Due.is("of length 1 at 0", x.cut(0, 0), Due.BEYOND);
        Due.is("the eighth", x.cut(1, 49), 7);
        Due.is("the ninth", x.cut(2, 25), Due.FULL);
        Due.is("the ninth beyond", x.cut(2, 50), Due.BEYOND);
        Due.is("its length is left", x.of(2, Due.LENGTH), 50);
    }

    private static void bends() {
        RopeEnds x = Due.ropes(Due.ROPE, Due.BELL, Due.TWINE);
        Due.is("they don't know each other", x.bends(0, 1), 0);
        Due.store(x, "know 0 1; know 0 2");
        Due.is("they know each other", x.bends(0, 1), 1);
        Due.is("the other way", x.bends(1, 0), 1);
        Due.is("to twine", x.bends(0, 2), 0);
        Due.is("twine", x.bends(2, 0), 0);
        Due.is("to one that it doesn't know", x.bends(1, 2), 0);
    }

    private static void bendsInAGale() {
        RopeEnds x = Due.ropes(Due.ROPE, Due.BELL, Due.TWINE);
        x.set(0, Due.LENGTH, 5);
        x.set(1, Due.LENGTH, 5);
        for (int passed = 0; passed < 48; passed++) {
            int h = passed % 24;
            Due.is("without a gale at " + h, x.bends(0, 1), 0);
            x.gale(1);
            Due.is("in a gale at " + h, x.bends(0, 1), h >= 20 || h < 6 ? 1 : 0);
            Due.is("twine in a gale at " + h, x.bends(2, 1), 0);
            Due.is("to twine in a gale at " + h, x.bends(1, 2), 0);
            x.gale(0);
            x.hours(1);
        }
    }

    private static void wrongRopes() {
        RopeEnds x = Due.ropes(Due.TWINE, Due.TWINE);
        int[][] wrong = {{0, 0}, {1, 1}, {0, 2}, {2, 0}, {-1, 0}, {0, -1}, {8, 1}, {2, 2},
            {Integer.MIN_VALUE, 0}, {1, Integer.MAX_VALUE}, {32, 0}, {0, 33}};
        for (int[] w : wrong) {
            String told = "(" + w[0] + ", " + w[1] + ")";
            Due.is("call" + told, x.call(w[0], w[1]), Due.BEYOND);
            Due.is("forget" + told, x.forget(w[0], w[1]), Due.BEYOND);
            Due.is("bends" + told, x.bends(w[0], w[1]), Due.BEYOND);
        }
        Due.is("nobody knows anybody", x.now(3), 0);
    }
}
