import java.lang.reflect.Method;
import java.lang.reflect.Modifier;
import java.util.ArrayList;
import java.util.Comparator;
import java.util.List;
import java.util.Random;
import java.util.Set;

/** Long runs of calls, the same for RopeEnds and for PlainStore: each answer is the same, and none throws. */
public final class PlainStoreTest {
    private static final int RUNS = 1500;
    /** As many as the document says an object is used for. */
    private static final int CALLS = 512;
    private static final int MOST_BYTES = 120;
    private static final int[] EDGES = {Integer.MIN_VALUE, -1000, -2, -1, 0, 1, 7, 8, 9, 31, 32, 33, 40, 41, 60, 61,
        99, 100, 120, 999, 1000, 65536, Integer.MAX_VALUE};
    /** Calls that take away what others have built up: they come more seldom. */
    private static final Set<String> EMPTYING = Set.of("undo", "wipe", "forget", "tear");
    private static final String[] PIECES = {"rope", "warp", "cable", "twine", "hawser", "bell", "know", "gale", "calm",
        "long", "fibre", "pride", "tar", ";", ";", ";", " ", " ", "0", "1", "2", "3", "7", "9", "10", "99", "100", "999",
        "1000", "007", "ropes", "x", "-", "\n", "\0", "\u00ff"};
    private static final String[] ITEMS = {"rope", "warp long 9", "cable fibre 1", "twine pride 2", "hawser tar 20",
        "bell long 120 fibre 3 pride 0 tar 99", "know 0 1", "know 1 2", "know 3 0", "know 2 3", "know 4 5", "gale", "calm"};

    private final Random dice;
    private final List<Method> methods = new ArrayList<>();
    /** How many calls the objects of this run have had. */
    private int calls = 0;

    private PlainStoreTest(long seed) {
        dice = new Random(seed);
        for (Method m : RopeEnds.class.getDeclaredMethods()) {
            if (Modifier.isPublic(m.getModifiers())) {
                methods.add(m);
            }
        }
        // The order in which a class tells its methods is not fixed.
        methods.sort(Comparator.comparing(Method::getName));
    }

    public static void main(String[] args) throws Exception {
        PlainStoreTest test = new PlainStoreTest(17);
        boolean alike = true;
        for (int run = 0; run < RUNS && alike; run++) {
            alike = test.run(run);
        }
        Due.isSo("all runs alike", alike);
        Due.end();
    }

    private boolean run(int run) throws Exception {
        RopeEnds real = new RopeEnds();
        PlainStore plain = new PlainStore();
        List<String> told = new ArrayList<>();
        boolean wild = run % 5 == 0;
        calls = 0;
        for (int i = run % 9; i > 0; i--) {
            int kind = dice.nextInt(6);
            alike("rope", new Object[] {kind}, real.rope(kind), plain.rope(kind), told);
        }
        while (calls < CALLS) {
            Method m = methods.get(dice.nextInt(methods.size()));
            if (EMPTYING.contains(m.getName()) && dice.nextInt(5) > 0) {
                continue;
            }
            if (m.getName().equals("feed") && dice.nextInt(3) > 0 && CALLS - calls > MOST_BYTES / 4) {
                feedText(real, plain, told);
                if (dice.nextInt(3) > 0 && !alike("store", new Object[0], real.store(), plain.store(), told)) {
                    return false;
                }
                continue;
            }
            Object[] values = values(m, wild);
            Method same = PlainStore.class.getDeclaredMethod(m.getName(), m.getParameterTypes());
            if (!alike(m.getName(), values, m.invoke(real, values), same.invoke(plain, values), told)) {
                return false;
            }
        }
        return true;
    }

    private boolean alike(String name, Object[] values, Object got, Object due, List<String> told) {
        calls++;
        told.add(name + List.of(values) + " = " + got);
        if (got.equals(due)) {
            return true;
        }
        System.out.println(String.join("\n", told) + ", due is " + due);
        return false;
    }

    private void feedText(RopeEnds real, PlainStore plain, List<String> told) {
        String text = text();
        told.add("text \"" + text + "\"");
        for (int i = 0; i < text.length(); i += 4) {
            int n = Math.min(4, text.length() - i);
            real.feed(Due.bytes(text, i), n);
            plain.feed(Due.bytes(text, i), n);
            calls++;
        }
    }

    private String text() {
        StringBuilder text = new StringBuilder();
        if (dice.nextInt(3) == 0) {
            for (int n = dice.nextInt(10); n > 0; n--) {
                text.append(PIECES[dice.nextInt(PIECES.length)]);
            }
        } else {
            for (int n = dice.nextInt(4); n >= 0; n--) {
                text.append(ITEMS[dice.nextInt(ITEMS.length)]).append(n > 0 ? "; " : "");
            }
        }
        return text.substring(0, Math.min(text.length(), MOST_BYTES));
    }

    private Object[] values(Method m, boolean wild) {
        Object[] values = new Object[m.getParameterCount()];
        for (int i = 0; i < values.length; i++) {
            boolean isLong = m.getParameterTypes()[i] == long.class;
            int v = wild && dice.nextInt(3) == 0 ? EDGES[dice.nextInt(EDGES.length)] : fitting(m.getName(), i);
            if (isLong) {
                values[i] = dice.nextInt(4) == 0 ? dice.nextLong() : (long) v;
            } else {
                values[i] = v;
            }
        }
        return values;
    }

    /** A number that such a place may well take, and now and then one that is just too great. */
    private int fitting(String name, int place) {
        switch (name) {
            case "set":
                return place == 0 ? dice.nextInt(9) : place == 1 ? 1 + dice.nextInt(4)
                    : dice.nextInt(new int[] {4, 10, 100, 1000}[dice.nextInt(4)]);
            case "turn":
            case "as":
                return dice.nextInt(place == 0 ? 9 : 7);
            case "rope":
                return dice.nextInt(7);
            case "of":
                return dice.nextInt(place == 0 ? 8 : 10);
            case "cut":
                return place == 0 ? dice.nextInt(8) : dice.nextInt(52);
            case "gale":
                return dice.nextInt(3);
            case "hours":
            case "on":
                return place == 0 && name.equals("on") ? dice.nextInt(8) : dice.nextInt(dice.nextInt(5) == 0 ? 62 : 8);
            case "feed":
                return place == 0 ? dice.nextInt() : dice.nextInt(6);
            case "sheet":
                return place == 0 ? dice.nextInt(4) : place == 1 ? new int[] {0, 8, 8, 16, 64, 32}[dice.nextInt(6)] : dice.nextInt(42);
            case "write":
                return place == 0 ? dice.nextInt(4) : place == 1 ? dice.nextInt(12) : dice.nextInt(10);
            case "copy":
                return place == 0 || place == 2 ? dice.nextInt(4) : dice.nextInt(9);
            case "lays":
            case "read":
                return dice.nextInt(4);
            case "book":
                return dice.nextInt(place == 0 ? 4 : 8);
            case "now":
            case "count":
                return dice.nextInt(8);
            case "status":
                return dice.nextInt(9) - 1;
            default:
                return dice.nextInt(8);
        }
    }
}
