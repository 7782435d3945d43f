import java.util.ArrayList;
import java.util.List;

/** The edges of the text of a store, which the Terms tell, and of promises 26 to 28: feed, wipe, store. */
final class TextEdges {
    private static final int T = Doc.TERMS;

    private TextEdges() {
    }

    static void run() {
        tape();
        tokensAreLong();
        words();
        numbers();
        signsAndBlanks();
        items();
        kindsAndTraits();
        know();
        weather();
        faultOfANumber();
        faultOfAWord();
        faultOfAByte();
        faultOfTheNinth();
        faultAtTheEnd();
        feed();
        feedFindings();
        wipe();
        store();
        storeWithAFault();
    }

    /** What store() answers to a text that is told to two ropes. */
    private static int told(String text) {
        return Due.store(Due.ropes(Due.ROPE, Due.ROPE), text);
    }

    /** A text is taken, and has so many items. */
    private static void taken(String text, int items) {
        Due.is("\"" + text + "\"", told(text), items);
    }

    /** A text is a fault, at a place. */
    private static void faults(String text, int place) {
        Due.is("\"" + text + "\"", told(text), -1 - place);
    }

    private static String times(String text, int n) {
        StringBuilder many = new StringBuilder();
        for (int i = 0; i < n; i++) {
            many.append(text);
        }
        return many.toString();
    }

    private static void tape() {
        Doc.says(T, "THE TEXT of a STORE, from THE TAPE (bytes, at most 120).");
        RopeEnds x = new RopeEnds();
        String text = times("gale;", 23) + "calm ";
        Due.feed(x, text);
        Due.is("120 bytes", x.count(1), 120);
        Due.is("the 121st", x.feed(' ', 1), Due.FULL);
        Due.is("all 120 are read", x.store(), 24);
        Due.feed(x, times("gale;", 23) + "calmx");
        Due.is("the 120th, too", x.store(), -1 - 115);
        Due.feed(x, times(" ", 119) + "?");
        Due.is("a fault at the last place", x.store(), -1 - 119);
        Due.feed(x, times(" ", 120));
        Due.is("120 blanks", x.store(), -1 - 120);
        Due.feed(x, times("gale;", 24));
        Due.is("24 signs", x.store(), -1 - 120);
    }

    private static void tokensAreLong() {
        Doc.says(T, "TOKENS, each as long as can be:");
        faults("ropes", 0);
        faults("ropelong 5", 0);
        faults("rope longs 5", 5);
        faults("galecalm", 0);
        taken("gale;calm", 2);
        faults("know 01", 7);
        taken("know 0 1", 1);
        faults("rope fibre 33", 11);
        faults("rope fibre 3 3", 13);
    }

    private static void words() {
        Doc.says(T, "WORDS (letters a to z),");
        for (int b = 0; b < 256; b++) {
            String text = "calm" + (char) b;
            boolean isLetter = b >= 'a' && b <= 'z';
            boolean isBlank = b == ' ';
            int due = isBlank ? 1 : isLetter ? -1 : b == ';' ? -1 - 5 : -1 - 4;
            Due.is("calm and byte " + b, told(text), due);
        }
        faults("Rope", 0);
        faults("rOpe", 0);
        faults("`", 0);
        faults("{", 0);
    }

    private static void numbers() {
        Doc.says(T, "NUMBERS (digits, 999 at most),");
        taken("rope long 999", 1);
        faults("rope long 1000", 10);
        faults("rope long 9990", 10);
        taken("rope long 0999", 1);
        faults("rope long 01000", 10);
        taken("rope long 1", 1);
        faults("rope long /", 10);
        faults("rope long :", 10);
        // Sizes at which a number would go round in 8, 16, 32 and 64 bits, and be allowed.
        faults("rope tar 257", 9);
        faults("rope tar 65537", 9);
        faults("rope tar 4294967297", 9);
        faults("rope tar 18446744073709551617", 9);
        faults("rope tar 1" + times("0", 100), 9);
        taken("rope tar " + times("0", 110) + "7", 1);
        for (char digit = '0'; digit <= '9'; digit++) {
            RopeEnds x = new RopeEnds();
            Due.is("digit " + digit, Due.store(x, "rope pride " + digit), 1);
            Due.is("its value", x.of(0, Due.PRIDE), digit - '0');
        }
    }

    private static void signsAndBlanks() {
        Doc.says(T, "SIGN ; ;");
        taken("gale;calm", 2);
        faults("gale,calm", 4);
        faults("gale:calm", 4);
        faults("gale calm", 5);
        Doc.says(T, "blanks may stand between.");
        taken(" rope  long   7    ;     calm ", 2);
        taken("rope long7fibre1pride2tar3;know0 2", 2);
        faults("ro pe", 0);
        faults("rope long 7 7", 12);
        for (char b : new char[] {'\t', '\n', '\r', '\0', '\f', (char) 160}) {
            faults("gale" + b + ";calm", 4);
        }
    }

    private static void items() {
        Doc.says(T, "TEXT: ITEM { ; ITEM }.");
        taken("gale", 1);
        taken("gale;gale", 2);
        taken("gale;gale;gale", 3);
        faults("", 0);
        faults(";", 0);
        faults(";gale", 0);
        faults("gale;", 5);
        faults("gale;;gale", 5);
    }

    private static void kindsAndTraits() {
        Doc.says(T, "ITEM: the name of a KIND (rope warp cable twine hawser bell),");
        String[] names = {"rope", "warp", "cable", "twine", "hawser", "bell"};
        for (int kind = 0; kind < 6; kind++) {
            RopeEnds x = new RopeEnds();
            Due.is(names[kind], Due.store(x, names[kind]), 1);
            Due.is("its kind", x.of(0, 0), kind);
        }
        traitOf("perhaps long and a NUMBER (1 to 999),", "long", Due.LENGTH, 1, 999);
        traitOf("perhaps fibre and a NUMBER (0 to 3),", "fibre", Due.FIBRE, 0, 3);
        traitOf("perhaps pride and a NUMBER (0 to 9),", "pride", Due.PRIDE, 0, 9);
        traitOf("perhaps tar and a NUMBER (0 to 99):", "tar", Due.TAR, 0, 99);
        Doc.says(T, "one more;");
        RopeEnds x = Due.ropes(Due.BELL);
        Due.is("two more", Due.store(x, "warp long 2 fibre 3 pride 4 tar 6; twine"), 2);
        Due.is("three are there", x.count(0), 3);
        int[][] due = {{Due.BELL, 50, 0, 3, 5, -1, 0}, {Due.WARP, 2, 3, 4, 6, -1, 0}, {Due.TWINE, 50, 0, 3, 5, -1, 0}};
        for (int rope = 0; rope < 3; rope++) {
            for (int what = 0; what <= 6; what++) {
                Due.is("of " + rope + " " + what, x.of(rope, what), due[rope][what]);
            }
        }
    }

    private static void traitOf(String sentence, String word, int what, int least, int most) {
        Doc.says(T, sentence);
        String[] words = {"", "long", "fibre", "pride", "tar"};
        String begin = "cable " + word + " ";
        for (int v : new int[] {least, least + 1, most - 1, most}) {
            RopeEnds x = new RopeEnds();
            Due.is(begin + v, Due.store(x, begin + v), 1);
            Due.is("it is " + v, x.of(0, what), v);
        }
        faults(begin + (most + 1), begin.length());
        if (least > 0) {
            faults(begin + (least - 1), begin.length());
        }
        faults(begin, begin.length());
        faults(begin + "-1", begin.length());
        faults(begin + word, begin.length());
        faults(begin + least + " " + word + " " + least, begin.length() + 2);
        for (int other = 1; other <= 4; other++) {
            String both = begin + least + " " + words[other] + " 1";
            Due.is(both, told(both), other > what ? 1 : -1 - begin.length() - 2);
        }
    }

    private static void know() {
        Doc.says(T, "know, two NUMBERS (two ropes there by then, unlike): they KNOW each other;");
        RopeEnds x = Due.ropes(0, 0, 0, 0, 0, 0, 0, 0);
        Due.is("the last two", Due.store(x, "know 6 7"), 1);
        Due.is("they know each other", x.of(7, Due.KNOWS), 64);
        Due.is("8 is none", Due.store(x, "know 7 8"), -1 - 7);
        Due.is("nor in front", Due.store(x, "know 8 7"), -1 - 5);
        Due.is("once more", Due.store(x, "know 7 6"), 1);
        Due.is("pairs", x.now(3), 1);
        taken("know 0 1", 1);
        taken("rope;know 0 2", 2);
        faults("know 0 2;rope", 7);
        faults("know 2 0;rope", 5);
        faults("know 0 0", 7);
        faults("know 1 1", 7);
        faults("know 1 01", 7);
        faults("know", 4);
        faults("know 0", 6);
        faults("know 0;", 6);
        faults("know 0 1 0", 9);
        faults("know 0 rope", 7);
        faults("know gale", 5);
        faults("know 256 1", 5);
        faults("know 0 257", 7);
        faults("know 4294967296 1", 5);
        Due.is("of no rope", Due.store(new RopeEnds(), "know 0 1"), -1 - 5);
        Due.is("of one rope", Due.store(Due.ropes(0), "know 0 1"), -1 - 7);
    }

    private static void weather() {
        Doc.says(T, "gale or calm: so it is.");
        for (int before = 0; before <= 1; before++) {
            RopeEnds x = new RopeEnds();
            x.gale(before);
            Due.is("gale", Due.store(x, "gale"), 1);
            Due.is("so it is", x.now(2), 1);
            x.gale(before);
            Due.is("calm", Due.store(x, "calm"), 1);
            Due.is("so it is then", x.now(2), 0);
            Due.is("both", Due.store(x, "calm;gale"), 2);
            Due.is("the last", x.now(2), 1);
        }
        faults("gale 1", 5);
        faults("calm calm", 5);
    }

    private static void faultOfANumber() {
        Doc.says(T, "FAULT: the place (from 0) of the first byte of the first TOKEN that can't stand there (a NUMBER that may not be,");
        faults("rope long 0", 10);
        faults("rope  long   000", 13);
        faults("gale;rope long 1000", 15);
        faults("rope 5", 5);
        faults("5", 0);
        faults(" 5", 1);
        faults("rope long 0;belt", 10);
        faults("belt;rope long 0", 0);
    }

    private static void faultOfAWord() {
        Doc.says(T, "another WORD,");
        faults("shackle", 0);
        faults("  shackle", 2);
        faults("rope;shackle", 5);
        faults("rope; shackle", 6);
        faults("rope rope", 5);
        faults("rope know", 5);
        faults("rope tar 1 long 1", 11);
        faults("rope long fibre 1", 10);
        faults("long 1", 0);
        for (String name : new String[] {"rope", "warp", "cable", "twine", "hawser", "bell", "know", "gale", "calm"}) {
            for (int i = 0; i < name.length(); i++) {
                faults(name.substring(0, i) + "z" + name.substring(i + 1), 0);
                faults(name.substring(0, i) + name.substring(i + 1), 0);
            }
        }
        for (String name : new String[] {"long", "fibre", "pride", "tar"}) {
            for (int i = 0; i < name.length(); i++) {
                faults("rope " + name.substring(0, i) + "z" + name.substring(i + 1) + " 1", 5);
            }
        }
        faults("b", 0);
        faults("bel", 0);
        faults("bells", 0);
        faults("bells rope", 0);
    }

    private static void faultOfAByte() {
        Doc.says(T, "a byte that begins no TOKEN,");
        faults("?", 0);
        faults("rope ?", 5);
        faults("rope?", 4);
        faults("rope long ?7", 10);
        faults("rope long 7?", 11);
        faults("know 0?1", 6);
        faults("rope;?", 5);
        faults("rope ? shackle", 5);
        faults("rope shackle ?", 5);
        for (int b = 0; b < 256; b++) {
            boolean isBlank = b == ' ';
            Due.is("byte " + b + " alone", told("" + (char) b), isBlank ? -1 - 1 : -1);
        }
    }

    private static void faultOfTheNinth() {
        Doc.says(T, "the name of a KIND for a 9th: its own),");
        taken("rope;rope;rope;rope;rope;rope", 6);
        faults("rope;rope;rope;rope;rope;rope;bell", 30);
        faults("rope;rope;rope;rope;rope;rope; bell long 0", 31);
        faults("rope;rope;rope;rope;rope;rope;belt", 30);
        RopeEnds full = Due.ropes(0, 0, 0, 0, 0, 0, 0, 0);
        Due.is("know, gale, calm are told to eight", Due.store(full, "know 0 7; gale; calm"), 3);
        Due.is("a ninth is not", Due.store(full, "know 1 7; gale; twine"), -1 - 16);
        Due.is("nor what was ahead of it", full.now(3), 1);
    }

    private static void faultAtTheEnd() {
        Doc.says(T, "or how many bytes there are if it ends too early.");
        faults("", 0);
        faults(" ", 1);
        faults("rope;", 5);
        faults("rope;  ", 7);
        faults("rope long", 9);
        faults("rope long ", 10);
        faults("rope long 5 fibre", 17);
        faults("know", 4);
        faults("know 0  ", 8);
    }

    private static void feed() {
        Doc.says(26, "THE TAPE gets the n lowest bytes of a number behind it, the highest of these first (n 1 to 4): how many it has.");
        int gale = 0x67616C65;
        for (int n = 1; n <= 4; n++) {
            RopeEnds x = new RopeEnds();
            Due.feed(x, "gale;gale".substring(0, 9 - n));
            Due.is("behind it, of " + n, x.feed(gale, n), 9);
            Due.is("so many", x.count(1), 9);
            Due.is("in their order", x.store(), 2);
        }
        RopeEnds x = new RopeEnds();
        Due.is("the lowest alone", x.feed(0x7F7F7F67, 1), 1);
        Due.is("the lowest two", x.feed(0x7F7F616C, 2), 3);
        Due.is("the lowest three", x.feed(0x80653B63, 3), 6);
        Due.is("and four", x.feed(0x616C6D20, 4), 10);
        Due.is("gale;calm", x.store(), 2);
        x.feed(-1, 1);
        Due.is("a byte of 255", x.store(), -1);
        x.feed(Stores.MIN, 4);
        Due.is("a byte of 128", x.store(), -1);
    }

    private static RopeEnds tapeOf(int bytes) {
        RopeEnds x = Stores.busy();
        x.wipe();
        Due.feed(x, (times("gale;", 23) + "calm ").substring(0, bytes));
        return x;
    }

    private static void feedFindings() {
        Doc.says(26, "BEYOND: n.");
        for (int n : Stores.beside(1, 4)) {
            Twin.refuses("n " + n, Stores::busy, x -> x.feed(0x67616C65, n), Due.BEYOND);
            Twin.refuses("n " + n + " on a full tape", () -> tapeOf(120), x -> x.feed(0x67616C65, n), Due.BEYOND);
        }
        Doc.says(26, "FULL.");
        for (int n = 1; n <= 4; n++) {
            int bytes = n;
            Due.is("just room for " + n, tapeOf(120 - n).feed(0x20202020, n), 120);
            Twin.refuses("no room for " + n, () -> tapeOf(121 - bytes), x -> x.feed(0x20202020, bytes), Due.FULL);
            Twin.refuses("no room for " + n + " at all", () -> tapeOf(120), x -> x.feed(0x20202020, bytes), Due.FULL);
        }
    }

    private static void wipe() {
        Doc.says(27, "THE TAPE is empty: how many it had.");
        RopeEnds x = new RopeEnds();
        Due.is("none", x.wipe(), 0);
        Due.feed(x, "r");
        Due.is("one", x.wipe(), 1);
        Due.is("none any more", x.wipe(), 0);
        Due.is("120", tapeOf(120).wipe(), 120);
        Due.feed(x, "bell;bell");
        x.wipe();
        Due.feed(x, "gale");
        Due.is("nothing is left of what it had", x.store(), 1);
        Due.is("no rope came", x.count(0), 0);
        RopeEnds wiped = Stores.busy();
        RopeEnds read = Stores.busy();
        wiped.wipe();
        read.wipe();
        read.wipe();
        Twin.alike("wiping twice", wiped, read);
    }

    private static void store() {
        Doc.says(28, "THE TAPE is THE TEXT of a STORE, whose ITEMS come to what there is, and empty then: how many ITEMS.");
        RopeEnds x = Due.ropes(Due.BELL);
        x.hours(7);
        Due.is("one item", Due.store(x, "warp"), 1);
        Due.is("empty then", x.count(1), 0);
        Due.is("not again", x.store(), -1);
        Due.is("to what there is", x.count(0), 2);
        Due.is("which is left", x.of(0, 0), Due.BELL);
        Due.is("with its tar", x.of(0, Due.TAR), 6);
        Due.is("and the hour", x.now(0), 7);
        List<String> most = new ArrayList<>();
        for (int i = 0; i < 24; i++) {
            most.add(i % 2 == 0 ? "gale" : "calm");
        }
        Due.is("as many items as there can be", Due.store(x, String.join(";", most)), 24);
        Due.is("the last holds", x.now(2), 0);
    }

    private static void storeWithAFault() {
        Doc.says(28, "With a FAULT: -1 less its place (nothing changes but that THE TAPE is empty; no finding).");
        String[] texts = {"", "rope;gale;know 0 1;know 0 0", "calm;know 3 4;?", "bell long 5;", "rope;rope;rope;rope",
            "gale;rope fibre 4", "know 2 3;warp;know 6 0;calm;rop"};
        int[] places = {0, 26, 14, 12, 10, 16, 28};
        for (int i = 0; i < texts.length; i++) {
            RopeEnds x = Stores.busy();
            RopeEnds y = Stores.busy();
            x.wipe();
            y.wipe();
            Due.is("\"" + texts[i] + "\"", Due.store(x, texts[i]), -1 - places[i]);
            Due.is("the tape is empty", x.count(1), 0);
            Due.is("no finding", x.status(-1), y.status(-1));
            Twin.alike("\"" + texts[i] + "\" changes nothing", x, y);
        }
    }
}
