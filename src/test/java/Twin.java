import java.util.function.Supplier;
import java.util.function.ToLongFunction;

/**
 * Two objects made alike, of which one is asked something and the other one isn't: all that can be
 * found out of both is held against each other, the tape, the sheets and the image, too.
 */
final class Twin {
    private static final long WIDE = 0x1122334455667788L;

    private Twin() {
    }

    /** A call is refused with a finding, which is counted once and changes nothing else. */
    static void refuses(String what, Supplier<RopeEnds> made, ToLongFunction<RopeEnds> act, int finding) {
        RopeEnds x = made.get();
        RopeEnds y = made.get();
        Due.is(what, act.applyAsLong(x), finding);
        for (int which = -1; which <= 6; which++) {
            boolean isCounted = which == -1 || which == Due.BEYOND - finding;
            Due.is(what + ": status " + which, x.status(which), y.status(which) + (isCounted ? 1 : 0));
        }
        Due.isSo(what + ": changes nothing else", everything(x).equals(everything(y)));
    }

    /** A call that only tells something: its answer, and nothing at all is changed. */
    static void tells(String what, Supplier<RopeEnds> made, ToLongFunction<RopeEnds> act, long answer) {
        RopeEnds x = made.get();
        RopeEnds y = made.get();
        Due.is(what, act.applyAsLong(x), answer);
        for (int which = -1; which <= 6; which++) {
            Due.is(what + ": status " + which, x.status(which), y.status(which));
        }
        Due.isSo(what + ": changes nothing", everything(x).equals(everything(y)));
    }

    /** Two calls, or runs of calls, come to the same. */
    static void alike(String what, RopeEnds x, RopeEnds y) {
        Due.isSo(what + ": comes to the same", everything(x).equals(everything(y)));
    }

    /** All that there is in an object but its status, as a text; the object is used up by that. */
    static String everything(RopeEnds x) {
        StringBuilder seen = new StringBuilder(Due.all(x));
        seen.append("\ntape: ").append(x.store()).append(' ').append(Due.all(x));
        seen.append("\nimage: ").append(x.undo()).append(' ').append(Due.all(x));
        // The sheets come last: where they end is found out by a finding.
        for (int s = 0; s < 4; s++) {
            seen.append("\nsheet ").append(s).append(": ").append(numbers(x, s));
        }
        return seen.toString();
    }

    private static String numbers(RopeEnds x, int s) {
        StringBuilder seen = new StringBuilder();
        long v = x.write(s, 0, WIDE);
        seen.append(v);
        for (int i = 1; v != Due.BEYOND && v != Due.MISSING; i++) {
            v = x.write(s, i, WIDE);
            seen.append(' ').append(v);
        }
        // What is left of a wide number tells how many bits the sheet has.
        return seen.append(", bits of ").append(x.write(s, 0, 0)).toString();
    }
}
