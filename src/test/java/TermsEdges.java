/** The edges that sections 1 to 3 of the Terms name, but for the text of a store. */
final class TermsEdges {
    private static final int T = Doc.TERMS;
    private static final String[] TRAITS = {"", "long", "fibre", "pride", "tar"};

    private TermsEdges() {
    }

    static void run() {
        findings();
        findingsInOrder();
        findingsChangeNothing();
        setsByBits();
        hourOfTheDay();
        gale();
        atMostEightRopes();
        theTreeOfKinds();
        traits();
        ends();
        knowing();
        meets();
        asks();
        asksOfABell();
        opens();
        on();
        lines();
        sheets();
    }

    private static void findings() {
        Doc.says(T, "FINDINGS are answers below -1000000000: -1000000001 BEYOND, -1000000002 FULL, -1000000003 KIND,"
            + " -1000000004 NONE, -1000000005 STATE, -1000000006 MISSING, -1000000007 SIZE (in longs, too).");
        RopeEnds x = Due.ropes(0, 0, 0, 0, 0, 0, 0, 0);
        Due.is("beyond", x.gale(2), -1000000001L);
        Due.is("full", x.rope(0), -1000000002L);
        Due.is("kind", x.as(0, Due.WARP), -1000000003L);
        Due.is("none", x.bent(0, 1), -1000000004L);
        Due.is("state", x.call(0, 1), -1000000005L);
        Due.is("missing", x.lays(0), -1000000006L);
        Due.is("size", x.sheet(0, 8, -1), -1000000007L);
        Due.is("beyond in a long", x.write(4, 0, 0), -1000000001L);
        Due.is("missing in a long", x.write(0, 0, 0), -1000000006L);
        Due.is("told", x.status(-1), 9);
    }

    private static void findingsInOrder() {
        Doc.says(T, "Each act tells its findings in the order in which they are asked;");
        RopeEnds x = Stores.full();
        Due.is("rope: BEYOND, FULL", x.rope(6), Due.BEYOND);
        Due.is("as: BEYOND, KIND", x.as(0, 6), Due.BEYOND);
        Due.is("call: BEYOND, STATE", x.call(0, 0), Due.BEYOND);
        Due.is("present: BEYOND, STATE", x.present(3, 0, 0), Due.BEYOND);
        Due.is("cut: BEYOND, FULL", x.cut(0, 30), Due.BEYOND);
        Due.is("when: BEYOND, NONE", x.when(4, 4), Due.BEYOND);
        Due.is("when: STATE, NONE", x.when(0, 1), Due.STATE);
        Due.is("line: BEYOND, NONE", x.line(3, 3), Due.BEYOND);
        Due.is("bent: BEYOND, NONE", x.bent(3, 3), Due.BEYOND);
        Due.is("rounds: BEYOND, NONE", x.rounds(3, 3), Due.BEYOND);
        Due.is("sheet: BEYOND (sheet), SIZE", x.sheet(4, 8, -1), Due.BEYOND);
        Due.is("sheet: BEYOND (bits), SIZE", x.sheet(0, 7, -1), Due.BEYOND);
        Due.is("write: MISSING, BEYOND", x.write(3, -1, 0), Due.MISSING);
        Due.is("copy: BEYOND, MISSING", x.copy(3, 0, 4, 0, 0), Due.BEYOND);
        Due.is("copy: MISSING, KIND", x.copy(3, 0, 0, 0, 0), Due.MISSING);
        Due.is("copy: MISSING, BEYOND", x.copy(0, 0, 3, 0, -1), Due.MISSING);
        Due.is("copy: KIND, BEYOND", x.copy(0, 0, 1, 0, -1), Due.KIND);
        Due.is("book: MISSING, BEYOND", x.book(3, 8), Due.MISSING);
        for (int bytes = x.count(1); bytes < 120; bytes++) {
            x.feed(' ', 1);
        }
        Due.is("feed: BEYOND, FULL", x.feed(' ', 5), Due.BEYOND);
        Due.is("feed: FULL", x.feed(' ', 4), Due.FULL);
    }

    private static void findingsChangeNothing() {
        Doc.says(T, "one that answers a finding changes nothing but status().");
        Twin.refuses("BEYOND", Stores::busy, x -> x.set(0, Due.TAR, 100), Due.BEYOND);
        Twin.refuses("FULL", Stores::full, x -> x.cut(0, 1), Due.FULL);
        Twin.refuses("KIND", Stores::busy, x -> x.copy(0, 0, 1, 0, 1), Due.KIND);
        Twin.refuses("NONE", Stores::torn, x -> x.undo(), Due.NONE);
        Twin.refuses("STATE", Stores::busy, x -> x.call(0, 1), Due.STATE);
        Twin.refuses("MISSING", Stores::busy, x -> x.book(3, 0), Due.MISSING);
        Twin.refuses("SIZE", Stores::busy, x -> x.sheet(0, 8, -1), Due.SIZE);
        // No promise asks for a quotient, so there is no answer in which one could be cut.
        Doc.says(T, "Quotients are cut.");
    }

    private static void setsByBits() {
        Doc.says(T, "Sets are told by bits.");
        RopeEnds x = Due.ropes(3, 3, 3, 3, 3, 3, 3, 3);
        Due.is("nobody", x.of(0, Due.KNOWS), 0);
        Due.is("all eight open", x.now(5), 255);
        Due.store(x, "know 0 7");
        Due.is("the last one alone", x.of(0, Due.KNOWS), 128);
        Due.is("the first one alone", x.of(7, Due.KNOWS), 1);
        Due.is("on 0 hours", x.on(0, 0), 128);
        for (int other = 1; other < 7; other++) {
            x.call(0, other);
        }
        Due.is("all but itself", x.of(0, Due.KNOWS), 254);
    }

    private static void hourOfTheDay() {
        Doc.says(T, "HOUR: 0 at first (99999 at most); of the day: its rest by 24.");
        RopeEnds x = new RopeEnds();
        Due.is("at first", x.now(0), 0);
        Due.is("of the day at first", x.now(1), 0);
        x.hours(23);
        Due.is("of the day at 23", x.now(1), 23);
        x.hours(1);
        Due.is("of the day at 24", x.now(1), 0);
        Due.is("which is 24", x.now(0), 24);
        x.hours(23);
        Due.is("of the day at 47", x.now(1), 23);
        x.hours(60);
        Due.is("of the day at 107", x.now(1), 11);
        Due.is("which is 107", x.now(0), 107);
    }

    private static void gale() {
        Doc.says(T, "GALE (0, 1; 0 at first).");
        RopeEnds x = new RopeEnds();
        Due.is("at first", x.now(2), 0);
        Due.is("1", x.gale(1), 0);
        Due.is("0", x.gale(0), 1);
        Due.is("2", x.gale(2), Due.BEYOND);
        Due.is("-1", x.gale(-1), Due.BEYOND);
        Due.is("as it was", x.now(2), 0);
    }

    private static void atMostEightRopes() {
        Doc.says(T, "ROPES 0, 1, .. (at most 8) are of KINDS:");
        RopeEnds x = new RopeEnds();
        for (int i = 0; i < 7; i++) {
            Due.is("rope " + i, x.rope(0), i);
        }
        x.image();
        Due.is("the eighth by rope", x.rope(0), 7);
        x.undo();
        Due.is("the eighth by cut", x.cut(0, 1), 7);
        x.undo();
        Due.is("the eighth by store", Due.store(x, "rope"), 1);
        Due.is("the ninth by rope", x.rope(0), Due.FULL);
        Due.is("the ninth by cut", x.cut(0, 1), Due.FULL);
        Due.is("the ninth by store", Due.store(x, "rope"), -1);
        Due.is("ropes", x.count(0), 8);
    }

    private static void theTreeOfKinds() {
        String[] sentences = {"0 ROPE,", "1 WARP under ROPE,", "2 CABLE under ROPE,", "3 TWINE under ROPE,",
            "4 HAWSER under WARP,", "5 BELL under CABLE;"};
        int[] isAlso = {1, 3, 5, 9, 19, 37};
        String[] names = {"rope", "warp", "cable", "twine", "hawser", "bell"};
        for (int kind = 0; kind < 6; kind++) {
            Doc.says(T, sentences[kind]);
            RopeEnds x = Due.ropes(kind);
            Due.is("its number", x.of(0, 0), kind);
            Due.is("by its name", Due.store(x, names[kind]), 1);
            Due.is("its number by its name", x.of(1, 0), kind);
            for (int as = 0; as < 6; as++) {
                Due.is("as " + as, x.as(0, as), (isAlso[kind] >> as & 1) == 1 ? 50 : Due.KIND);
            }
        }
    }

    private static void traits() {
        String[] sentences = {"", "each with a LENGTH (1 to 999; 50 at first),", "a FIBRE (0 to 3; 0 at first),",
            "PRIDE (0 to 9; 3 at first),", "TAR (0 to 99; 5 at first),"};
        int[] least = {0, 1, 0, 0, 0};
        int[] most = {0, 999, 3, 9, 99};
        int[] first = {0, 50, 0, 3, 5};
        for (int what = 1; what <= 4; what++) {
            Doc.says(T, sentences[what]);
            for (int kind = 0; kind < 6; kind++) {
                Due.is("at first", Due.ropes(kind).of(0, what), first[what]);
            }
            RopeEnds x = Due.ropes(0);
            Due.is("the least", x.set(0, what, least[what]), first[what]);
            Due.is("below", x.set(0, what, least[what] - 1), Due.BEYOND);
            Due.is("the least is left", x.of(0, what), least[what]);
            Due.is("the most", x.set(0, what, most[what]), least[what]);
            Due.is("above", x.set(0, what, most[what] + 1), Due.BEYOND);
            Due.is("the most is left", x.of(0, what), most[what]);
            traitInAText(what, least[what], most[what], first[what]);
        }
    }

    private static void traitInAText(int what, int least, int most, int first) {
        RopeEnds x = new RopeEnds();
        String begin = "rope " + TRAITS[what] + " ";
        Due.is("the least in a text", Due.store(x, begin + least), 1);
        Due.is("the most in a text", Due.store(x, begin + most), 1);
        Due.is("above in a text", Due.store(x, begin + (most + 1)), -1 - begin.length());
        Due.is("not told in a text", Due.store(x, "rope"), 1);
        int below = least == 1 ? -1 - begin.length() : 1;
        Due.is("0 in a text", Due.store(x, begin + 0), below);
        int[] due = {least, most, first};
        for (int rope = 0; rope < 3; rope++) {
            Due.is("by the text " + rope, x.of(rope, what), due[rope]);
        }
    }

    private static void ends() {
        Doc.says(T, "the other END (of which it was cut; -1: none, at first).");
        for (int kind = 0; kind < 6; kind++) {
            RopeEnds x = Due.ropes(kind);
            Due.is("none at first", x.of(0, Due.END), -1);
            x.cut(0, 20);
            Due.is("of the new one", x.of(1, Due.END), 0);
            Due.is("of the old one", x.of(0, Due.END), 1);
            Due.store(x, "rope");
            Due.is("none of one from a text", x.of(2, Due.END), -1);
        }
    }

    private static void knowing() {
        Doc.says(T, "Two ropes KNOW each other, or not (not at first; each knows the other one, or neither does).");
        RopeEnds x = Stores.at(9, 0, 0, 0, 0);
        Due.is("not at first", x.now(3), 0);
        Due.is("nobody knows anybody", x.count(3), 4);
        x.call(0, 1);
        knowEachOther("by a call", x, 0, 1);
        Due.store(x, "know 2 0");
        knowEachOther("by a text", x, 0, 2);
        x.present(0, 1, 2);
        knowEachOther("by one that presents them", x, 1, 2);
        x.forget(2, 1);
        Due.is("neither does", x.of(1, Due.KNOWS) >> 2 & 1, 0);
        Due.is("nor the other", x.of(2, Due.KNOWS) >> 1 & 1, 0);
        x.cut(0, 25);
        knowEachOther("by a cut", x, 4, 1);
        knowEachOther("and the other one", x, 4, 2);
        x.hours(11);
        x.gale(1);
        x.hours(1);
        knowEachOther("by a gale", x, 0, 3);
    }

    private static void knowEachOther(String what, RopeEnds x, int one, int other) {
        Due.is(what, x.of(one, Due.KNOWS) >> other & 1, 1);
        Due.is(what + ", the other way", x.of(other, Due.KNOWS) >> one & 1, 1);
    }

    /** The fibres that a rope of a kind and of a fibre meets, as a set. */
    private static int fibresMet(int kind, int own) {
        RopeEnds x = Due.ropes(kind, Due.ROPE);
        x.set(0, Due.FIBRE, own);
        int met = 0;
        for (int fibre = 0; fibre <= 3; fibre++) {
            x.set(1, Due.FIBRE, fibre);
            met |= x.meets(0, 1) << fibre;
        }
        return met;
    }

    private static void meets() {
        String[] sentences = {"MEETS (whether it will know one of a FIBRE at all): ROPE: its own FIBRE.",
            "WARP: as ROPE, and also FIBRES that are 1 off.", "CABLE: as ROPE.", "TWINE: any.",
            "HAWSER: as WARP, but not FIBRE 3.", "BELL: any, but its own."};
        // By kind, then by its own fibre. 0 and 3 are not 1 off: fibres don't go round.
        int[][] due = {{1, 2, 4, 8}, {3, 7, 14, 12}, {1, 2, 4, 8}, {15, 15, 15, 15}, {3, 7, 6, 4}, {14, 13, 11, 7}};
        for (int kind = 0; kind < 6; kind++) {
            Doc.says(T, sentences[kind]);
            for (int own = 0; own <= 3; own++) {
                Due.is("of fibre " + own + " meets", fibresMet(kind, own), due[kind][own]);
            }
        }
    }

    private static int asks(int kind, int pride) {
        RopeEnds x = Due.ropes(kind);
        x.set(0, Due.PRIDE, pride);
        return x.of(0, Due.ASKS);
    }

    private static void asks() {
        String[] sentences = {"ASKS (how much TAR a caller must bring): ROPE: PRIDE.", "WARP: as ROPE.",
            "CABLE: twice as ROPE.", "TWINE: 0.", "HAWSER: as WARP, and 2."};
        int[] ofNoPride = {0, 0, 0, 0, 2};
        int[] ofMostPride = {9, 9, 18, 0, 11};
        for (int kind = 0; kind < 5; kind++) {
            Doc.says(T, sentences[kind]);
            Due.is("of no pride", asks(kind, 0), ofNoPride[kind]);
            Due.is("of most pride", asks(kind, 9), ofMostPride[kind]);
            RopeEnds x = Due.ropes(kind, Due.TWINE);
            Due.store(x, "know 0 1");
            Due.is("whomever it knows", x.of(0, Due.ASKS), asks(kind, 3));
        }
    }

    private static void asksOfABell() {
        Doc.says(T, "BELL: as CABLE, less 1 for each that it KNOWS (0 at least).");
        RopeEnds x = Due.ropes(5, 5, 5, 5, 5, 5, 5, 5);
        int[] ofPride3 = {6, 5, 4, 3, 2, 1, 0, 0};
        for (int known = 0; known < 8; known++) {
            if (known > 0) {
                Due.store(x, "know 0 " + known);
            }
            x.set(0, Due.PRIDE, 3);
            Due.is("of pride 3 that knows " + known, x.of(0, Due.ASKS), ofPride3[known]);
            x.set(0, Due.PRIDE, 9);
            Due.is("of pride 9 that knows " + known, x.of(0, Due.ASKS), 18 - known);
            x.set(0, Due.PRIDE, 0);
            Due.is("of no pride that knows " + known, x.of(0, Due.ASKS), 0);
        }
    }

    /** The hours of two days at which a rope of a kind opens, as a set of 48. */
    private static long hoursOpen(int kind) {
        RopeEnds x = Due.ropes(kind);
        long open = 0;
        for (int hour = 0; hour < 48; hour++) {
            open |= (long) x.of(0, Due.OPENS) << hour;
            Due.is("of all that open at " + hour, x.now(5), x.of(0, Due.OPENS));
            x.hours(1);
        }
        return open;
    }

    private static void opens() {
        String[] sentences = {"OPENS (at which hours of the day it receives a caller): ROPE: 8 to 11.",
            "WARP: as ROPE, and 12.", "CABLE: as ROPE, but not at even ones.", "TWINE: always.", "HAWSER: as WARP.",
            "BELL: as CABLE, and 16."};
        long[] aDay = {0x000F00, 0x001F00, 0x000A00, 0xFFFFFF, 0x001F00, 0x010A00};
        for (int kind = 0; kind < 6; kind++) {
            Doc.says(T, sentences[kind]);
            Due.is("the hours of two days", hoursOpen(kind), aDay[kind] << 24 | aDay[kind]);
        }
        // Told by the rows above: what a kind doesn't tell of its own it has from the one above it.
        Doc.says(T, "(Others as the KIND above, here and there.)");
        Due.is("a hawser opens as a warp", hoursOpen(Due.HAWSER), hoursOpen(Due.WARP));
        Due.is("a warp asks as a rope", asks(Due.WARP, 9), asks(Due.ROPE, 9));
        Due.is("a cable meets as a rope", fibresMet(Due.CABLE, 1), fibresMet(Due.ROPE, 1));
    }

    private static void on() {
        Doc.says(T, "ON: n HOURS go on with all as it is; nothing changes.");
        RopeEnds x = Stores.at(19, 0, 0, 0);
        x.gale(1);
        Due.is("as if the hours went", x.on(0, 3), 6);
        Due.is("but they don't", x.now(0), 19);
        Due.is("nor is anybody known", x.now(3), 0);
        Twin.tells("on 60 hours", Stores::busy, y -> y.on(1, 60), 0b110101);
        // Two midnights bring 3, a twine, the 2 of tar that it lacks; the cable opens at 9.
        Twin.tells("when 48 hours go on", Stores::busy, y -> y.when(3, 2), 48);
    }

    private static void lines() {
        Doc.says(T, "LINE: ropes bent one to the next one, each once;");
        RopeEnds x = Due.ropes(0, 0, 0);
        Due.store(x, "know 0 1; know 1 2");
        Due.is("by one between", x.bent(0, 2), 2);
        Due.sheet(x, 0, 8, 0, 1, 0);
        Due.is("not twice", x.read(0), 3);
        Due.is("there and no further", x.line(0, 1), 98);
        Doc.says(T, "its LENGTH: of all together, less 2 for each bend.");
        Due.is("of one", Due.ropes(0).longest(), 50);
        Due.is("of two", x.line(0, 1), 50 + 50 - 2);
        Due.is("of three", x.line(0, 2), 50 + 50 + 50 - 4);
        for (int rope = 0; rope < 3; rope++) {
            x.set(rope, Due.LENGTH, 1);
        }
        Due.is("of three of 1", x.line(0, 2), -1);
        RopeEnds all = Due.ropes(0, 0, 0, 0, 0, 0, 0, 0);
        for (int rope = 0; rope < 8; rope++) {
            all.set(rope, Due.LENGTH, 999);
        }
        all.gale(1);
        Due.is("of eight of 999", all.longest(), 8 * 999 - 14);
    }

    private static void sheets() {
        Doc.says(T, "SHEETS 0 to 3 are rows of at most 40 numbers of 8, 16 or 64 bits, or MISSING (at first).");
        RopeEnds x = new RopeEnds();
        for (int s = 0; s <= 3; s++) {
            Due.is("missing at first", x.write(s, 0, 0), Due.MISSING);
        }
        int[] bits = {8, 16, 64, 0};
        long[] kept = {(byte) Stores.BIG, (short) Stores.BIG, Stores.BIG, Due.MISSING};
        for (int s = 0; s <= 3; s++) {
            Due.is("40 numbers", x.sheet(s, bits[s], 40), bits[s] == 0 ? 0 : 40);
            Due.is("41 numbers", x.sheet(s, bits[s], 41), Due.BEYOND);
            x.write(s, 39, Stores.BIG);
            Due.is("the last of 40", x.write(s, 39, 0), kept[s]);
        }
        Due.is("sheet -1", x.sheet(-1, 8, 1), Due.BEYOND);
        Due.is("sheet 4", x.sheet(4, 8, 1), Due.BEYOND);
    }
}
