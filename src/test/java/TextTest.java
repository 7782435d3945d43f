/** Promises 26 to 28: feed, wipe, store. */
public final class TextTest {
    public static void main(String[] args) {
        feed();
        feedFindings();
        wipe();
        items();
        traits();
        know();
        weather();
        tokens();
        faults();
        eachByteAlone();
        nothingChangesWithAFault();
        theNinth();
        Due.end();
    }

    private static void feed() {
        RopeEnds x = new RopeEnds();
        Due.is("4 bytes, the highest first", x.feed(0x6B6E6F77, 4), 4);
        Due.is("3 bytes", x.feed(0x77203120, 3), 7);
        Due.is("2 bytes", x.feed(0x7777203B, 2), 9);
        Due.is("1 byte", x.feed(0x7777773B, 1), 10);
        Due.is("count", x.count(1), 10);
        Due.is("know, which no rope can", x.store(), -1 - 5);
        x.feed(0x77617270, 4);
        Due.is("warp", x.store(), 1);
        Due.is("is a warp", x.of(0, 0), Due.WARP);
        x.feed(0xFF, 1);
        Due.is("a byte of 255", x.store(), -1);
    }

    private static void feedFindings() {
        RopeEnds x = new RopeEnds();
        Due.is("n 0", x.feed(1, 0), Due.BEYOND);
        Due.is("n 5", x.feed(1, 5), Due.BEYOND);
        Due.is("n -1", x.feed(1, -1), Due.BEYOND);
        Due.is("n MIN", x.feed(1, Integer.MIN_VALUE), Due.BEYOND);
        Due.is("n MAX", x.feed(1, Integer.MAX_VALUE), Due.BEYOND);
        for (int i = 1; i <= 29; i++) {
            Due.is("feed " + i, x.feed(0, 4), 4 * i);
        }
        Due.is("118", x.feed(0, 2), 118);
        Due.is("3 more are too many", x.feed(0, 3), Due.FULL);
        Due.is("none came", x.count(1), 118);
        Due.is("2 more", x.feed(0, 2), 120);
        Due.is("1 more", x.feed(0, 1), Due.FULL);
        Due.is("5 more", x.feed(0, 5), Due.BEYOND);
        Due.is("all bytes of 0", x.store(), -1);
        Due.is("empty", x.count(1), 0);
    }

    private static void wipe() {
        RopeEnds x = new RopeEnds();
        Due.is("nothing", x.wipe(), 0);
        Due.feed(x, "rope");
        Due.is("four", x.wipe(), 4);
        Due.is("empty", x.count(1), 0);
        Due.is("no text", x.store(), -1);
        Due.is("no rope", x.count(0), 0);
    }

    private static void items() {
        RopeEnds x = new RopeEnds();
        Due.is("each kind", Due.store(x, "rope;warp;cable;twine;hawser;bell"), 6);
        for (int kind = 0; kind < 6; kind++) {
            Due.is("kind " + kind, x.of(kind, 0), kind);
        }
        Due.is("the tape is empty", x.count(1), 0);
        Due.is("they come to what there is", Due.store(x, "bell; know 6 5"), 2);
        Due.is("ropes", x.count(0), 7);
        Due.is("6 knows 5", x.of(6, Due.KNOWS), 32);
        int[] first = {Due.BELL, 50, 0, 3, 5, -1};
        for (int what = 0; what <= 5; what++) {
            Due.is("at first " + what, x.of(6, what), first[what]);
        }
        StringBuilder many = new StringBuilder("gale");
        for (int i = 0; i < 23; i++) {
            many.append(";calm");
        }
        Due.is("24 items in 119 bytes", Due.store(x, many.toString()), 24);
    }

    private static void traits() {
        RopeEnds x = new RopeEnds();
        Due.is("all traits", Due.store(x, "warp long 999 fibre 3 pride 9 tar 99; cable long 1 fibre 0 pride 0 tar 0"), 2);
        int[] most = {Due.WARP, 999, 3, 9, 99};
        int[] least = {Due.CABLE, 1, 0, 0, 0};
        for (int what = 0; what <= 4; what++) {
            Due.is("most " + what, x.of(0, what), most[what]);
            Due.is("least " + what, x.of(1, what), least[what]);
        }
        Due.is("single traits", Due.store(x, "rope long 7; rope fibre 2; rope pride 6; rope tar 8; rope fibre 1 tar 9"), 5);
        Due.is("long", x.of(2, Due.LENGTH), 7);
        Due.is("fibre", x.of(3, Due.FIBRE), 2);
        Due.is("pride", x.of(4, Due.PRIDE), 6);
        Due.is("tar", x.of(5, Due.TAR), 8);
        Due.is("fibre of two", x.of(6, Due.FIBRE), 1);
        Due.is("tar of two", x.of(6, Due.TAR), 9);
        String[] wrong = {"long 0", "long 1000", "fibre 4", "pride 10", "tar 100", "long 1001", "tar 4294967296",
            "fibre 99999999999999999999", "tar 340282366920938463463374607431768211456"};
        for (String w : wrong) {
            Due.is(w, Due.store(x, "rope " + w), -1 - 5 - w.indexOf(' ') - 1);
        }
        String[] turnedRound = {"fibre 1 long", "pride 1 fibre", "tar 1 pride", "tar 1 long", "long 1 long", "tar 1 tar"};
        for (String w : turnedRound) {
            Due.is(w, Due.store(x, "rope " + w + " 1"), -1 - 5 - w.lastIndexOf(' ') - 1);
        }
        Due.is("ropes", x.count(0), 7);
    }

    private static void know() {
        RopeEnds x = Due.ropes(0, 0);
        Due.is("two that were there", Due.store(x, "know 0 1"), 1);
        Due.is("0 knows", x.of(0, Due.KNOWS), 2);
        Due.is("1 knows", x.of(1, Due.KNOWS), 1);
        Due.is("once more", Due.store(x, "know 1 0"), 1);
        Due.is("as before", x.now(3), 1);
        Due.is("one that comes", Due.store(x, "twine;know 2 1"), 2);
        Due.is("2 knows", x.of(2, Due.KNOWS), 2);
        Due.is("one that comes too late", Due.store(x, "know 3 0;rope"), -6);
        Due.is("the second comes too late", Due.store(x, "know 0 3;rope"), -8);
        Due.is("unlike", Due.store(x, "know 2 2"), -8);
        Due.is("alike in other digits", Due.store(x, "know 2 002"), -8);
        Due.is("one number", Due.store(x, "know 0"), -7);
        Due.is("one number and a sign", Due.store(x, "know 0;"), -7);
        Due.is("none", Due.store(x, "know"), -5);
        Due.is("three", Due.store(x, "know 0 2 1"), -10);
        Due.is("a word", Due.store(x, "know rope"), -6);
        Due.is("8 is none", Due.store(x, "know 0 8"), -8);
        Due.is("1000 is none", Due.store(x, "know 1000 0"), -6);
        Due.is("the pairs are left", x.now(3), 2);
    }

    private static void weather() {
        RopeEnds x = new RopeEnds();
        Due.is("gale", Due.store(x, "gale"), 1);
        Due.is("there is one", x.now(2), 1);
        Due.is("gale again", Due.store(x, "gale"), 1);
        Due.is("still", x.now(2), 1);
        Due.is("calm", Due.store(x, "calm"), 1);
        Due.is("there is none", x.now(2), 0);
        Due.is("the last one holds", Due.store(x, "calm;gale;calm;gale"), 4);
        Due.is("so it is", x.now(2), 1);
        Due.is("gale with a number", Due.store(x, "gale 1"), -6);
        Due.is("calm with a word", Due.store(x, "calm long 1"), -6);
    }

    private static void tokens() {
        RopeEnds x = new RopeEnds();
        Due.is("no blanks", Due.store(x, "rope;rope;know0 1"), 3);
        Due.is("words and numbers side by side", Due.store(x, "warp long5fibre2pride1tar7;calm"), 2);
        Due.is("long", x.of(2, Due.LENGTH), 5);
        Due.is("tar", x.of(2, Due.TAR), 7);
        Due.is("blanks at both ends", Due.store(x, "   rope   ;  calm   "), 2);
        Due.is("digits in front", Due.store(x, "rope long 000012 tar 007"), 1);
        Due.is("long 12", x.of(4, Due.LENGTH), 12);
        Due.is("tar 7", x.of(4, Due.TAR), 7);
        Due.is("a word as long as can be", Due.store(x, "ropelong 5"), -1);
        Due.is("a number as long as can be", Due.store(x, "rope long 1234"), -11);
        Due.is("a number in two", Due.store(x, "rope long 1 2"), -13);
        Due.is("a word in two", Due.store(x, "ro pe"), -1);
        Due.is("part of a word", Due.store(x, "rop"), -1);
        Due.is("a word and more", Due.store(x, "ropes"), -1);
        Due.is("great letters", Due.store(x, "Rope"), -1);
        Due.is("a great letter behind", Due.store(x, "ropE"), -1);
        Due.is("a word behind", Due.store(x, "rope rope"), -6);
        Due.is("another word", Due.store(x, "rope;shackle"), -6);
        Due.is("another first letter", Due.store(x, "hope"), -1);
        Due.is("another last letter", Due.store(x, "galt"), -1);
        Due.is("a word with the name's length", Due.store(x, "belt"), -1);
    }

    private static void faults() {
        RopeEnds x = new RopeEnds();
        Due.is("empty", x.store(), -1);
        Due.is("blanks alone", Due.store(x, "   "), -4);
        Due.is("a sign alone", Due.store(x, ";"), -1);
        Due.is("a sign behind a blank", Due.store(x, " ;"), -2);
        Due.is("a sign at the end", Due.store(x, "rope;"), -6);
        Due.is("a sign and blanks at the end", Due.store(x, "rope; "), -7);
        Due.is("two signs", Due.store(x, "rope;;rope"), -6);
        Due.is("a number alone", Due.store(x, "5"), -1);
        Due.is("long alone", Due.store(x, "long 5"), -1);
        Due.is("long at the end", Due.store(x, "rope long"), -10);
        Due.is("long and blanks at the end", Due.store(x, "rope long  "), -12);
        Due.is("long and a sign", Due.store(x, "rope long;"), -10);
        Due.is("long and a word", Due.store(x, "rope long tar 5"), -11);
        Due.is("a number behind a kind", Due.store(x, "rope 5"), -6);
        Due.is("a byte that begins no token", Due.store(x, "rope, rope"), -5);
        Due.is("a sign of less", Due.store(x, "rope tar -1"), -10);
        Due.is("a line's end is no blank", Due.store(x, "rope\n;rope"), -5);
        Due.is("the first of two faults", Due.store(x, "rope long 0; belt"), -11);
        Due.is("no finding", x.status(-1), 0);
        Due.is("no rope", x.count(0), 0);
    }

    private static void eachByteAlone() {
        RopeEnds x = new RopeEnds();
        for (int b = 0; b < 256; b++) {
            x.feed(b, 1);
            Due.is("byte " + b + " alone", x.store(), b == ' ' ? -2 : -1);
            Due.feed(x, "calm");
            x.feed(b, 1);
            int due = b == ' ' ? 1 : b == ';' ? -6 : b >= 'a' && b <= 'z' ? -1 : -5;
            Due.is("byte " + b + " behind calm", x.store(), due);
            x = new RopeEnds();
        }
    }

    private static void nothingChangesWithAFault() {
        RopeEnds x = Due.ropes(Due.ROPE, Due.BELL);
        x.hours(7);
        String before = Due.all(x);
        Due.is("a fault at the end", Due.store(x, "warp long 5; know 0 2; know 0 1; gale; belt"), -40);
        Due.isSo("nothing changes", before.equals(Due.all(x)));
        Due.is("the tape is empty", x.count(1), 0);
        Due.is("no finding", x.status(-1), 0);
    }

    private static void theNinth() {
        RopeEnds x = Due.ropes(0, 0, 0, 0, 0, 0);
        Due.is("a ninth", Due.store(x, "rope; rope long 7; gale;  bell long 0"), -27);
        Due.is("none of them came", x.count(0), 6);
        Due.is("the eighth", Due.store(x, "rope; rope long 7; gale"), 3);
        Due.is("ropes", x.count(0), 8);
        Due.is("its length", x.of(7, Due.LENGTH), 7);
        Due.is("know is still told", Due.store(x, "know 6 7"), 1);
    }
}
