/** Promises 35 to 39: image, undo, tear, count, status; and that an act with a finding changes nothing. */
public final class ImagesTest {
    public static void main(String[] args) {
        imageAndUndo();
        whatAnImageLeavesOut();
        theLatest();
        tear();
        count();
        status();
        statusCountsItself();
        findingsChangeNothing();
        Due.end();
    }

    private static RopeEnds busy() {
        RopeEnds x = Due.ropes(Due.ROPE, Due.CABLE, Due.TWINE);
        Due.store(x, "know 0 1; know 1 2");
        x.set(2, Due.LENGTH, 7);
        x.set(1, Due.FIBRE, 3);
        x.set(1, Due.PRIDE, 9);
        x.set(0, Due.TAR, 77);
        x.hours(10);
        x.cut(0, 10);
        x.gale(1);
        return x;
    }

    private static void changeAll(RopeEnds x) {
        x.rope(Due.BELL);
        x.set(4, Due.FIBRE, 2);
        x.set(4, Due.PRIDE, 2);
        Due.store(x, "know 3 4");
        x.turn(1, Due.HAWSER);
        x.set(0, Due.LENGTH, 5);
        x.set(1, Due.FIBRE, 0);
        x.set(1, Due.PRIDE, 1);
        x.set(2, Due.TAR, 50);
        x.cut(3, 5);
        x.forget(1, 2);
        x.gale(0);
        x.hours(30);
    }

    private static void imageAndUndo() {
        RopeEnds x = busy();
        String before = Due.all(x);
        Due.is("image", x.image(), 1);
        Due.isSo("an image changes nothing", before.equals(Due.all(x)));
        changeAll(x);
        Due.isSo("all is changed", !before.equals(Due.all(x)));
        Due.is("undo", x.undo(), 4);
        Due.isSo("all is as it was", before.equals(Due.all(x)));
        changeAll(x);
        Due.is("undo again: it stays", x.undo(), 4);
        Due.isSo("all is as it was again", before.equals(Due.all(x)));
        x.rope(Due.WARP);
        int[] first = {Due.WARP, 50, 0, 3, 5, -1, 0};
        for (int what = 0; what <= 6; what++) {
            Due.is("a new one behind it is new: " + what, x.of(4, what), first[what]);
        }
    }

    private static void whatAnImageLeavesOut() {
        RopeEnds x = new RopeEnds();
        Due.feed(x, "rope");
        Due.sheet(x, 0, 8, 5);
        x.image();
        x.feed(';', 1);
        x.write(0, 0, 6);
        x.sheet(1, 8, 1);
        x.of(0, 0);
        x.rope(0);
        Due.is("undo to none", x.undo(), 0);
        Due.is("no rope", x.count(0), 0);
        Due.is("the tape is left", x.count(1), 5);
        Due.is("the sheet is left", x.write(0, 0, 6), 6);
        Due.is("the new sheet is left", x.write(1, 0, 0), 0);
        Due.is("findings are left", x.status(0), 1);
    }

    private static void theLatest() {
        RopeEnds x = new RopeEnds();
        x.image();
        x.rope(0);
        x.image();
        x.rope(0);
        Due.is("to the latest", x.undo(), 1);
        x.rope(0);
        x.rope(0);
        Due.is("to the latest again", x.undo(), 1);
    }

    private static void tear() {
        RopeEnds x = new RopeEnds();
        Due.is("nothing kept", x.tear(), 0);
        Due.is("nothing to undo", x.undo(), Due.NONE);
        x.image();
        x.rope(0);
        Due.is("something kept", x.tear(), 1);
        Due.is("not twice", x.tear(), 0);
        Due.is("nothing to undo any more", x.undo(), Due.NONE);
        Due.is("the rope is left", x.count(0), 1);
        x.image();
        Due.is("kept again", x.undo(), 1);
        Due.is("told", x.status(3), 2);
    }

    private static void count() {
        RopeEnds x = Due.ropes(0, 0, 0, 0);
        Due.store(x, "know 0 2");
        x.cut(1, 5);
        Due.feed(x, "bell");
        int[] due = {5, 4, 2, 3};
        for (int what = 0; what <= 3; what++) {
            Due.is("count " + what, x.count(what), due[what]);
        }
        x.forget(0, 2);
        x.cut(0, 5);
        Due.is("0 knows nobody", x.count(3), 6);
        Due.is("0 has an end", x.count(2), 4);
        Due.is("count(-1)", x.count(-1), Due.BEYOND);
        Due.is("count(4)", x.count(4), Due.BEYOND);
        Due.is("count(MIN)", x.count(Integer.MIN_VALUE), Due.BEYOND);
        Due.is("count(MAX)", x.count(Integer.MAX_VALUE), Due.BEYOND);
    }

    private static void status() {
        RopeEnds x = Due.ropes(0, 0, 0, 0, 0, 0, 0, 0);
        for (int i = 0; i < 7; i++) {
            x.gale(7);
        }
        for (int i = 0; i < 6; i++) {
            x.rope(0);
        }
        for (int i = 0; i < 5; i++) {
            x.as(0, 1);
        }
        for (int i = 0; i < 4; i++) {
            x.line(0, 1);
        }
        for (int i = 0; i < 3; i++) {
            x.call(0, 1);
        }
        for (int i = 0; i < 2; i++) {
            x.write(0, 0, 0);
        }
        x.sheet(0, 8, -1);
        for (int which = 0; which <= 6; which++) {
            Due.is("status " + which, x.status(which), 7 - which);
        }
        Due.is("all", x.status(-1), 28);
        Due.is("all again", x.status(-1), 28);
    }

    private static void statusCountsItself() {
        RopeEnds x = new RopeEnds();
        Due.is("status(7)", x.status(7), Due.BEYOND);
        Due.is("counted", x.status(0), 1);
        Due.is("status(-2)", x.status(-2), Due.BEYOND);
        Due.is("status(MIN)", x.status(Integer.MIN_VALUE), Due.BEYOND);
        Due.is("status(MAX)", x.status(Integer.MAX_VALUE), Due.BEYOND);
        Due.is("all counted", x.status(-1), 4);
    }

    private static void findingsChangeNothing() {
        RopeEnds x = busy();
        Due.feed(x, "rope");
        String before = Due.all(x);
        x.rope(9);
        x.set(0, 1, 0);
        x.turn(0, 6);
        x.call(0, 1);
        x.call(0, 0);
        x.present(0, 1, 2);
        x.forget(0, 9);
        x.cut(0, 10);
        x.gale(2);
        x.hours(61);
        x.when(0, 1);
        x.feed(0, 0);
        x.undo();
        x.lays(0);
        x.book(0, 0);
        Due.is("all of them findings", x.status(-1), 15);
        Due.isSo("nothing changes", before.equals(Due.all(x)));
    }
}
