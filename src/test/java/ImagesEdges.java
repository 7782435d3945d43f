/** The edges of promises 35 to 39: image, undo, tear, count, status; and the last of an object's calls. */
final class ImagesEdges {
    private ImagesEdges() {
    }

    static void run() {
        image();
        whatIsNotKept();
        undo();
        tear();
        count();
        status();
        statusAndUndo();
        statusBeyond();
        theLastCall();
    }

    /** Changes all that section 1 tells: each trait, the pairs, the ends, the gale and the hour. */
    private static void changeAll(RopeEnds x) {
        x.rope(Due.BELL);
        for (int rope = 0; rope < Stores.BUSY; rope++) {
            x.turn(rope, Due.HAWSER);
            x.set(rope, Due.LENGTH, 900 + rope);
            x.set(rope, Due.FIBRE, 2);
            x.set(rope, Due.PRIDE, 8);
            x.set(rope, Due.TAR, 90);
        }
        x.forget(0, 1);
        x.cut(5, 100);
        Due.is("eight ropes", x.count(0), 8);
        x.gale(1 - x.now(2));
        x.hours(30);
    }

    private static void image() {
        Doc.says(35, "All that section 1 tells (THE TAPE not) is kept: 1.");
        Due.is("of nothing", new RopeEnds().image(), 1);
        Due.is("of a busy store", Stores.busy().image(), 1);
        Due.is("of a full store", Stores.full().image(), 1);
        RopeEnds x = Stores.busy();
        RopeEnds y = Stores.busy();
        x.image();
        y.image();
        changeAll(x);
        x.undo();
        Twin.alike("all is kept", x, y);
        RopeEnds z = Stores.busy();
        String before = Due.all(z);
        z.image();
        Due.isSo("an image changes nothing that is", before.equals(Due.all(z)));
        RopeEnds full = Stores.full();
        before = Due.all(full);
        full.image();
        full.set(7, Due.LENGTH, 1);
        full.hours(60);
        full.undo();
        Due.isSo("all eight are kept", before.equals(Due.all(full)));
    }

    private static void whatIsNotKept() {
        RopeEnds x = new RopeEnds();
        Due.feed(x, "gale");
        Due.sheet(x, 0, 8, 5);
        x.image();
        x.wipe();
        Due.feed(x, "rope;rope");
        x.write(0, 0, 6);
        x.sheet(1, 16, 2);
        x.undo();
        Due.is("the tape isn't", x.count(1), 9);
        Due.is("nor its bytes", x.store(), 2);
        Due.is("the sheets aren't", x.write(0, 0, 6), 6);
        Due.is("a new one is left", x.write(1, 1, 0), 0);
        x.sheet(1, 0, 0);
        x.undo();
        Due.is("a missing one, too", x.write(1, 1, 0), Due.MISSING);
        Due.is("the ropes are gone", x.count(0), 0);
    }

    private static void undo() {
        Doc.says(36, "It becomes what was kept latest (which stays): how many ROPES.");
        RopeEnds x = new RopeEnds();
        x.image();
        x.rope(0);
        Due.is("to none", x.undo(), 0);
        Due.is("none is there", x.count(0), 0);
        for (int rope = 0; rope < 8; rope++) {
            x.rope(0);
        }
        x.image();
        Due.is("to eight", x.undo(), 8);
        x.set(7, Due.LENGTH, 9);
        Due.is("to eight again: it stays", x.undo(), 8);
        Due.is("as it was", x.of(7, Due.LENGTH), 50);
        x.set(7, Due.LENGTH, 9);
        x.image();
        x.set(7, Due.LENGTH, 10);
        Due.is("the latest", x.undo(), 8);
        Due.is("not an earlier one", x.of(7, Due.LENGTH), 9);
        fewerRopes();
        Doc.says(36, "NONE: nothing is kept.");
        Twin.refuses("at first", Stores::empty, y -> y.undo(), Due.NONE);
        Twin.refuses("torn", Stores::torn, y -> y.undo(), Due.NONE);
    }

    private static void fewerRopes() {
        RopeEnds x = Stores.busy();
        x.set(5, Due.FIBRE, 3);
        x.set(5, Due.PRIDE, 7);
        Due.is("to fewer ropes", x.undo(), 5);
        Due.is("the next one to come", x.rope(Due.WARP), 5);
        int[] first = {Due.WARP, 50, 0, 3, 5, -1, 0, 3, 0};
        for (int what = 0; what <= 8; what++) {
            Due.is("is new: " + what, x.of(5, what), first[what]);
        }
        Due.is("and known by nobody", x.count(3), 6);
    }

    private static void tear() {
        Doc.says(37, "Nothing is kept: 1 if something was, else 0.");
        Twin.tells("nothing was", Stores::empty, x -> x.tear(), 0);
        Twin.tells("nothing is any more", Stores::torn, x -> x.tear(), 0);
        RopeEnds x = Stores.busy();
        String before = Due.all(x);
        Due.is("something was", x.tear(), 1);
        Due.isSo("what there is is left", before.equals(Due.all(x)));
        Due.is("nothing to undo", x.undo(), Due.NONE);
        RopeEnds none = new RopeEnds();
        none.image();
        Due.is("an image of nothing is something", none.tear(), 1);
        x.image();
        x.image();
        Due.is("two images", x.tear(), 1);
        Due.is("are one", x.tear(), 0);
        x.image();
        Due.is("kept anew", x.undo(), 6);
    }

    private static void count() {
        Doc.says(38, "0 ROPES, 1 bytes of THE TAPE, 2 ropes with an END, 3 ropes that KNOW nobody.");
        int[] busy = {6, 16, 2, 2};
        for (int what = 0; what <= 3; what++) {
            int w = what;
            Twin.tells("count(" + what + ")", Stores::busy, x -> x.count(w), busy[what]);
            Twin.tells("of nothing " + what, Stores::empty, x -> x.count(w), 0);
        }
        RopeEnds x = Due.ropes(0, 0, 0, 0);
        for (int rope = 0; rope < 4; rope++) {
            x.cut(rope, 25);
        }
        Due.is("eight ropes", x.count(0), 8);
        Due.is("all with an end", x.count(2), 8);
        Due.is("all know nobody", x.count(3), 8);
        Due.store(x, "know 0 1; know 2 3; know 4 5; know 6 7");
        Due.is("all know one", x.count(3), 0);
        Doc.says(38, "BEYOND: another what.");
        for (int what : Stores.beside(0, 3)) {
            Twin.refuses("count(" + what + ")", Stores::busy, y -> y.count(what), Due.BEYOND);
        }
    }

    private static void status() {
        Doc.says(39, "which -1: all, 0 to 6: BEYOND to SIZE.");
        RopeEnds x = Due.ropes(0, 0, 0, 0, 0, 0, 0, 0);
        for (int which = 0; which <= 6; which++) {
            for (int times = 0; times <= which; times++) {
                makeFinding(x, which);
            }
        }
        int[] due = {28, 1, 2, 3, 4, 5, 6, 7};
        for (int which = -1; which <= 6; which++) {
            Due.is("status(" + which + ")", x.status(which), due[which + 1]);
            Due.is("status(" + which + ") again", x.status(which), due[which + 1]);
            Due.is("of a new object " + which, new RopeEnds().status(which), 0);
        }
    }

    private static void makeFinding(RopeEnds x, int which) {
        switch (which) {
            case 0: x.gale(2); break;
            case 1: x.rope(0); break;
            case 2: x.as(0, 1); break;
            case 3: x.undo(); break;
            case 4: x.present(0, 1, 2); break;
            case 5: x.read(0); break;
            default: x.sheet(0, 8, -1); break;
        }
    }

    private static void statusAndUndo() {
        Doc.says(39, "How many acts answered a finding ever (undo() takes none back):");
        RopeEnds x = new RopeEnds();
        x.image();
        x.gale(2);
        x.write(0, 0, 0);
        x.undo();
        Due.is("all", x.status(-1), 2);
        Due.is("of an act that answers a long", x.status(5), 1);
        x.store();
        Due.is("a fault is none", x.status(-1), 2);
        x.tear();
        x.wipe();
        Due.is("nothing takes them back", x.status(-1), 2);
        x.undo();
        Due.is("an undo that is refused is one", x.status(-1), 3);
    }

    private static void statusBeyond() {
        Doc.says(39, "BEYOND (counted from then on): another one.");
        for (int which : Stores.beside(-1, 6)) {
            Twin.refuses("status(" + which + ")", Stores::busy, x -> x.status(which), Due.BEYOND);
        }
        RopeEnds x = new RopeEnds();
        Due.is("status(7)", x.status(7), Due.BEYOND);
        Due.is("counted", x.status(0), 1);
        Due.is("status(-2)", x.status(-2), Due.BEYOND);
        Due.is("counted with all", x.status(-1), 2);
    }

    private static void theLastCall() {
        Due.about("An object is used for at most 512 calls after it has been made");
        RopeEnds x = new RopeEnds();
        for (int call = 1; call < 512; call++) {
            x.gale(2);
        }
        Due.is("the 512th call", x.status(0), 511);
        RopeEnds y = new RopeEnds();
        for (int call = 1; call < 512; call++) {
            y.hours(60);
        }
        Due.is("the 512th call, as late as can be", y.now(0), 511 * 60);
    }
}
