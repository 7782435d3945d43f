import java.util.ArrayList;
import java.util.Arrays;
import java.util.List;
import java.util.function.IntPredicate;
import java.util.function.IntUnaryOperator;
import java.util.regex.Matcher;
import java.util.regex.Pattern;

/**
 * The document once more, in its plainest form, without regard to speed or to what is made:
 * PlainStoreTest holds it against RopeEnds. Kinds are classes here, sheets rows of their own
 * type, lines are tried out one by one, and the text is cut by a pattern.
 */
final class PlainStore {
    private static class Rope {
        int length = 50;
        int fibre = 0;
        int pride = 3;
        int tar = 5;
        int end = -1;

        int kind() {
            return 0;
        }

        boolean meets(int f) {
            return f == fibre;
        }

        int asks(int known) {
            return pride;
        }

        boolean opens(int h) {
            return List.of(8, 9, 10, 11).contains(h);
        }

        final Rope as(int kind) {
            Rope r = make(kind);
            r.length = length;
            r.fibre = fibre;
            r.pride = pride;
            r.tar = tar;
            r.end = end;
            return r;
        }

        static Rope make(int kind) {
            switch (kind) {
                case 0: return new Rope();
                case 1: return new Warp();
                case 2: return new Cable();
                case 3: return new Twine();
                case 4: return new Hawser();
                default: return new Bell();
            }
        }
    }

    private static class Warp extends Rope {
        @Override int kind() {
            return 1;
        }

        @Override boolean meets(int f) {
            return super.meets(f) || f == fibre + 1 || f == fibre - 1;
        }

        @Override boolean opens(int h) {
            return super.opens(h) || h == 12;
        }
    }

    private static class Cable extends Rope {
        @Override int kind() {
            return 2;
        }

        @Override int asks(int known) {
            return 2 * super.asks(known);
        }

        @Override boolean opens(int h) {
            return super.opens(h) && h % 2 != 0;
        }
    }

    private static final class Twine extends Rope {
        @Override int kind() {
            return 3;
        }

        @Override boolean meets(int f) {
            return true;
        }

        @Override int asks(int known) {
            return 0;
        }

        @Override boolean opens(int h) {
            return true;
        }
    }

    private static final class Hawser extends Warp {
        @Override int kind() {
            return 4;
        }

        @Override boolean meets(int f) {
            return f != 3 && super.meets(f);
        }

        @Override int asks(int known) {
            return super.asks(known) + 2;
        }
    }

    private static final class Bell extends Cable {
        @Override int kind() {
            return 5;
        }

        @Override boolean meets(int f) {
            return f != fibre;
        }

        @Override int asks(int known) {
            return Math.max(0, super.asks(known) - known);
        }

        @Override boolean opens(int h) {
            return super.opens(h) || h == 16;
        }
    }

    private static final class World {
        int hour = 0;
        boolean gale = false;
        List<Rope> ropes = new ArrayList<>();
        boolean[][] know = new boolean[8][8];

        World twin() {
            World w = new World();
            w.hour = hour;
            w.gale = gale;
            for (Rope r : ropes) {
                w.ropes.add(r.as(r.kind()));
            }
            for (int i = 0; i < 8; i++) {
                w.know[i] = know[i].clone();
            }
            return w;
        }

        World on(int n) {
            World w = twin();
            for (int i = 0; i < n; i++) {
                w.anHour();
            }
            return w;
        }

        int size() {
            return ropes.size();
        }

        int day() {
            return hour % 24;
        }

        boolean night() {
            return day() >= 20 || day() < 6;
        }

        void know(int a, int b, boolean so) {
            know[a][b] = so;
            know[b][a] = so;
        }

        int known(int a) {
            int n = 0;
            for (boolean k : know[a]) {
                n += k ? 1 : 0;
            }
            return n;
        }

        int pairs() {
            int n = 0;
            for (int a = 0; a < 8; a++) {
                for (int b = 0; b < a; b++) {
                    n += know[a][b] ? 1 : 0;
                }
            }
            return n;
        }

        boolean meets(int a, int b) {
            return ropes.get(a).meets(ropes.get(b).fibre);
        }

        int asks(int a) {
            return ropes.get(a).asks(known(a));
        }

        boolean canCall(int a, int b) {
            if (know[a][b] || !meets(a, b) || !meets(b, a)) {
                return false;
            }
            return ropes.get(b).opens(day()) && ropes.get(a).tar >= asks(b);
        }

        boolean canPresent(int p, int a, int b) {
            return !know[a][b] && know[p][a] && know[p][b] && (meets(a, b) || meets(b, a));
        }

        boolean bends(int a, int b) {
            if (ropes.get(a).kind() == 3 || ropes.get(b).kind() == 3) {
                return false;
            }
            return know[a][b] || gale && night();
        }

        void anHour() {
            if (day() == 0) {
                for (Rope r : ropes) {
                    r.tar = r.tar == 99 ? 99 : r.tar + 1;
                }
            }
            if (gale && night()) {
                grasp();
            }
            if (gale && day() == 6) {
                for (int a = 0; a < size(); a++) {
                    for (int b = 0; b < size(); b++) {
                        if (a != b && !meets(a, b) && !meets(b, a)) {
                            know(a, b, false);
                        }
                    }
                }
                gale = false;
            }
            hour++;
        }

        private void grasp() {
            for (int a = 0; a < size(); a++) {
                for (int b = a + 1; b < size(); b++) {
                    Rope one = ropes.get(a);
                    Rope other = ropes.get(b);
                    boolean able = one.kind() != 3 && other.kind() != 3 && one.length >= 20 && other.length >= 20;
                    if (able && !know[a][b]) {
                        know(a, b, true);
                        return;
                    }
                }
            }
        }
    }

    private World world = new World();
    private World image = null;
    private String tape = "";
    private final Object[] sheets = new Object[4];
    private final int[] told = new int[7];

    private int find(int finding) {
        told[-1000000001 - finding]++;
        return finding;
    }

    private boolean no(int rope) {
        return rope < 0 || rope >= world.size();
    }

    private boolean no(int a, int b) {
        return no(a) || no(b) || a == b;
    }

    private int bits(IntPredicate p) {
        int set = 0;
        for (int i = 0; i < world.size(); i++) {
            set += p.test(i) ? 1 << i : 0;
        }
        return set;
    }

    private int sum(IntUnaryOperator f) {
        int sum = 0;
        for (int i = 0; i < world.size(); i++) {
            sum += f.applyAsInt(i);
        }
        return sum;
    }

    private static int best(int n, IntUnaryOperator f) {
        int best = n - 1;
        for (int i = n - 1; i >= 0; i--) {
            best = f.applyAsInt(i) >= f.applyAsInt(best) ? i : best;
        }
        return best;
    }

    int rope(int kind) {
        if (kind < 0 || kind > 5) {
            return find(Due.BEYOND);
        }
        if (world.size() == 8) {
            return find(Due.FULL);
        }
        world.ropes.add(Rope.make(kind));
        return world.size() - 1;
    }

    int of(int rope, int what) {
        if (no(rope) || what < 0 || what > 8) {
            return find(Due.BEYOND);
        }
        Rope r = world.ropes.get(rope);
        boolean[] knows = world.know[rope];
        return new int[] {r.kind(), r.length, r.fibre, r.pride, r.tar, r.end, bits(i -> knows[i]),
            world.asks(rope), r.opens(world.day()) ? 1 : 0}[what];
    }

    int set(int rope, int what, int v) {
        if (no(rope) || what < 1 || what > 4) {
            return find(Due.BEYOND);
        }
        if (v < (what == 1 ? 1 : 0) || v > new int[] {0, 999, 3, 9, 99}[what]) {
            return find(Due.BEYOND);
        }
        int was = of(rope, what);
        Rope r = world.ropes.get(rope);
        r.length = what == 1 ? v : r.length;
        r.fibre = what == 2 ? v : r.fibre;
        r.pride = what == 3 ? v : r.pride;
        r.tar = what == 4 ? v : r.tar;
        return was;
    }

    int turn(int rope, int kind) {
        if (no(rope) || kind < 0 || kind > 5) {
            return find(Due.BEYOND);
        }
        int was = world.ropes.get(rope).kind();
        world.ropes.set(rope, world.ropes.get(rope).as(kind));
        return was;
    }

    int as(int rope, int kind) {
        if (no(rope) || kind < 0 || kind > 5) {
            return find(Due.BEYOND);
        }
        Rope r = world.ropes.get(rope);
        return Rope.make(kind).getClass().isInstance(r) ? r.length : find(Due.KIND);
    }

    int meets(int rope, int other) {
        return no(rope, other) ? find(Due.BEYOND) : world.meets(rope, other) ? 1 : 0;
    }

    int call(int rope, int other) {
        if (no(rope, other)) {
            return find(Due.BEYOND);
        }
        if (!world.canCall(rope, other)) {
            return find(Due.STATE);
        }
        world.ropes.get(rope).tar -= world.asks(other);
        world.know(rope, other, true);
        return world.known(other);
    }

    int present(int rope, int one, int other) {
        if (no(rope, one) || no(one, other) || no(rope, other)) {
            return find(Due.BEYOND);
        }
        if (!world.canPresent(rope, one, other)) {
            return find(Due.STATE);
        }
        world.know(one, other, true);
        return world.pairs();
    }

    int forget(int rope, int other) {
        if (no(rope, other)) {
            return find(Due.BEYOND);
        }
        int did = world.know[rope][other] ? 1 : 0;
        world.know(rope, other, false);
        return did;
    }

    int cut(int rope, int l) {
        if (no(rope) || l < 1 || l >= world.ropes.get(rope).length) {
            return find(Due.BEYOND);
        }
        if (world.size() == 8) {
            return find(Due.FULL);
        }
        Rope old = world.ropes.get(rope);
        Rope rest = old.as(old.kind());
        int number = world.size();
        world.ropes.add(rest);
        rest.tar = 0;
        rest.length -= l;
        old.length = l;
        for (Rope r : world.ropes) {
            r.end = r.end == rope ? -1 : r.end;
        }
        old.end = number;
        rest.end = rope;
        for (int i = 0; i < number; i++) {
            world.know(number, i, world.know[rope][i]);
        }
        return number;
    }

    int bends(int rope, int other) {
        return no(rope, other) ? find(Due.BEYOND) : world.bends(rope, other) ? 1 : 0;
    }

    int gale(int v) {
        if (v != 0 && v != 1) {
            return find(Due.BEYOND);
        }
        int was = world.gale ? 1 : 0;
        world.gale = v == 1;
        return was;
    }

    int hours(int n) {
        if (n < 1 || n > 60) {
            return find(Due.BEYOND);
        }
        if (world.hour + n > 99999) {
            return find(Due.STATE);
        }
        world = world.on(n);
        return world.pairs();
    }

    int now(int what) {
        switch (what) {
            case 0: return world.hour;
            case 1: return world.day();
            case 2: return world.gale ? 1 : 0;
            case 3: return world.pairs();
            case 4: return sum(i -> world.ropes.get(i).length);
            case 5: return bits(i -> world.ropes.get(i).opens(world.day()));
            case 6: return sum(i -> world.ropes.get(i).tar);
            default: return find(Due.BEYOND);
        }
    }

    int on(int rope, int n) {
        if (no(rope) || n < 0 || n > 60) {
            return find(Due.BEYOND);
        }
        World then = world.on(n);
        return bits(i -> then.know[rope][i]);
    }

    int when(int rope, int other) {
        if (no(rope, other)) {
            return find(Due.BEYOND);
        }
        if (world.know[rope][other]) {
            return find(Due.STATE);
        }
        for (int n = 0; n <= 100; n++) {
            if (world.on(n).canCall(rope, other)) {
                return n;
            }
        }
        return find(Due.NONE);
    }

    /** All lines that go on from one: of each its length and its bends, to a list by its last rope. */
    private void lines(int from, int used, int length, int bends, List<List<int[]>> byLast) {
        byLast.get(from).add(new int[] {length, bends});
        for (int next = 0; next < world.size(); next++) {
            if ((used >> next & 1) == 0 && world.bends(from, next)) {
                int longer = length + world.ropes.get(next).length - 2;
                lines(next, used | 1 << next, longer, bends + 1, byLast);
            }
        }
    }

    private List<List<int[]>> linesFrom(int rope) {
        List<List<int[]>> byLast = new ArrayList<>();
        for (int i = 0; i < 8; i++) {
            byLast.add(new ArrayList<>());
        }
        lines(rope, 1 << rope, world.ropes.get(rope).length, 0, byLast);
        return byLast;
    }

    int longest() {
        int best = Integer.MIN_VALUE;
        for (int from = 0; from < world.size(); from++) {
            for (List<int[]> lines : linesFrom(from)) {
                for (int[] line : lines) {
                    best = Math.max(best, line[0]);
                }
            }
        }
        return best == Integer.MIN_VALUE ? find(Due.NONE) : best;
    }

    int line(int rope, int other) {
        if (no(rope, other)) {
            return find(Due.BEYOND);
        }
        int best = Integer.MIN_VALUE;
        for (int[] line : linesFrom(rope).get(other)) {
            best = Math.max(best, line[0]);
        }
        return best == Integer.MIN_VALUE ? find(Due.NONE) : best;
    }

    int bent(int rope, int other) {
        if (no(rope, other)) {
            return find(Due.BEYOND);
        }
        int best = Integer.MAX_VALUE;
        for (int[] line : linesFrom(rope).get(other)) {
            best = Math.min(best, line[1]);
        }
        return best == Integer.MAX_VALUE ? find(Due.NONE) : best;
    }

    int rounds(int rope, int other) {
        if (no(rope, other)) {
            return find(Due.BEYOND);
        }
        World w = world.twin();
        for (int round = 0; round < 100; round++) {
            if (w.know[rope][other]) {
                return round;
            }
            World began = w.twin();
            for (int p = 0; p < w.size(); p++) {
                for (int a = 0; a < w.size(); a++) {
                    for (int b = 0; b < w.size(); b++) {
                        if (p != a && p != b && a != b && began.canPresent(p, a, b)) {
                            w.know(a, b, true);
                        }
                    }
                }
            }
        }
        return find(Due.NONE);
    }

    int known() {
        return world.size() == 0 ? find(Due.NONE) : best(world.size(), i -> world.known(i));
    }

    int kind(int rope) {
        if (no(rope)) {
            return find(Due.BEYOND);
        }
        return best(6, k -> {
            World w = world.twin();
            w.ropes.set(rope, w.ropes.get(rope).as(k));
            return sum(i -> i != rope && w.canCall(i, rope) ? 1 : 0);
        });
    }

    int fibre(int rope) {
        if (no(rope)) {
            return find(Due.BEYOND);
        }
        return best(4, f -> {
            World w = world.twin();
            w.ropes.get(rope).fibre = f;
            return sum(i -> i != rope && w.meets(i, rope) && w.meets(rope, i) ? 1 : 0);
        });
    }

    int hour(int rope) {
        if (no(rope)) {
            return find(Due.BEYOND);
        }
        return best(24, h -> sum(i -> i != rope && !world.know[rope][i] && world.meets(i, rope)
            && world.meets(rope, i) && world.ropes.get(i).opens(h) ? 1 : 0));
    }

    int feed(int bytes, int n) {
        if (n < 1 || n > 4) {
            return find(Due.BEYOND);
        }
        if (tape.length() + n > 120) {
            return find(Due.FULL);
        }
        String all = "";
        for (int i = 0; i < 4; i++) {
            all = (char) (bytes >> 8 * i & 255) + all;
        }
        tape += all.substring(4 - n);
        return tape.length();
    }

    int wipe() {
        int had = tape.length();
        tape = "";
        return had;
    }

    private static final Pattern TOKEN = Pattern.compile("[a-z]+|[0-9]+|[^ ]", Pattern.DOTALL);
    private static final List<String> KINDS = List.of("rope", "warp", "cable", "twine", "hawser", "bell");

    int store() {
        List<String> tokens = new ArrayList<>();
        List<Integer> places = new ArrayList<>();
        Matcher m = TOKEN.matcher(tape);
        while (m.find()) {
            tokens.add(m.group());
            places.add(m.start());
        }
        tokens.add("");
        places.add(tape.length());
        tape = "";
        World before = world.twin();
        int[] at = {0};
        for (int items = 1;; items++) {
            if (!item(tokens, at)) {
                break;
            }
            if (tokens.get(at[0]).isEmpty()) {
                return items;
            }
            if (!tokens.get(at[0]).equals(";")) {
                break;
            }
            at[0]++;
        }
        world = before;
        return -1 - places.get(at[0]);
    }

    private boolean item(List<String> tokens, int[] at) {
        String word = tokens.get(at[0]);
        if (word.equals("gale") || word.equals("calm")) {
            world.gale = word.equals("gale");
            at[0]++;
            return true;
        }
        if (word.equals("know")) {
            at[0]++;
            int a = number(tokens.get(at[0]), 0, world.size() - 1);
            if (a < 0) {
                return false;
            }
            at[0]++;
            int b = number(tokens.get(at[0]), 0, world.size() - 1);
            if (b < 0 || b == a) {
                return false;
            }
            at[0]++;
            world.know(a, b, true);
            return true;
        }
        int kind = KINDS.indexOf(word);
        if (kind < 0 || world.size() == 8) {
            return false;
        }
        Rope r = Rope.make(kind);
        world.ropes.add(r);
        at[0]++;
        String[] names = {"long", "fibre", "pride", "tar"};
        int[] most = {999, 3, 9, 99};
        for (int i = 0; i < 4; i++) {
            if (tokens.get(at[0]).equals(names[i])) {
                at[0]++;
                int v = number(tokens.get(at[0]), i == 0 ? 1 : 0, most[i]);
                if (v < 0) {
                    return false;
                }
                set(world.size() - 1, i + 1, v);
                at[0]++;
            }
        }
        return true;
    }

    /** A token as a number between two, or -1. */
    private static int number(String token, int least, int most) {
        String digits = token.replaceFirst("^0+(?=.)", "");
        if (!digits.matches("[0-9]{1,3}")) {
            return -1;
        }
        int v = Integer.parseInt(digits);
        return v >= least && v <= most ? v : -1;
    }

    private int size(int s) {
        return sheets[s] == null ? -1 : java.lang.reflect.Array.getLength(sheets[s]);
    }

    private long get(int s, int i) {
        return java.lang.reflect.Array.getLong(sheets[s], i);
    }

    private void put(int s, int i, long v) {
        if (sheets[s] instanceof byte[] b) {
            b[i] = (byte) v;
        } else if (sheets[s] instanceof short[] h) {
            h[i] = (short) v;
        } else {
            ((long[]) sheets[s])[i] = v;
        }
    }

    int sheet(int s, int bits, int n) {
        if (s < 0 || s > 3 || !List.of(0, 8, 16, 64).contains(bits)) {
            return find(Due.BEYOND);
        }
        if (n < 0) {
            return find(Due.SIZE);
        }
        if (n > 40) {
            return find(Due.BEYOND);
        }
        sheets[s] = bits == 0 ? null : bits == 8 ? new byte[n] : bits == 16 ? new short[n] : new long[n];
        return bits == 0 ? 0 : n;
    }

    long write(int s, int i, long v) {
        if (s < 0 || s > 3) {
            return find(Due.BEYOND);
        }
        if (sheets[s] == null) {
            return find(Due.MISSING);
        }
        if (i < 0 || i >= size(s)) {
            return find(Due.BEYOND);
        }
        long was = get(s, i);
        put(s, i, v);
        return was;
    }

    int copy(int s, int from, int t, int to, int n) {
        if (s < 0 || s > 3 || t < 0 || t > 3) {
            return find(Due.BEYOND);
        }
        if (sheets[s] == null || sheets[t] == null) {
            return find(Due.MISSING);
        }
        if (sheets[s].getClass() != sheets[t].getClass()) {
            return find(Due.KIND);
        }
        if (from < 0 || to < 0 || n < 0 || (long) from + n > size(s) || (long) to + n > size(t)) {
            return find(Due.BEYOND);
        }
        long[] were = new long[n];
        for (int i = 0; i < n; i++) {
            were[i] = get(s, from + i);
        }
        for (int i = 0; i < n; i++) {
            put(t, to + i, were[i]);
        }
        return n;
    }

    int lays(int s) {
        if (s < 0 || s > 3) {
            return find(Due.BEYOND);
        }
        if (sheets[s] == null) {
            return find(Due.MISSING);
        }
        int came = 0;
        for (int i = 0; i < size(s); i++) {
            if (i < world.size() && get(s, i) >= 1 && get(s, i) <= 999) {
                world.ropes.get(i).length = (int) get(s, i);
                came++;
            }
        }
        return came;
    }

    int book(int s, int rope) {
        if (s < 0 || s > 3) {
            return find(Due.BEYOND);
        }
        if (sheets[s] == null) {
            return find(Due.MISSING);
        }
        if (no(rope)) {
            return find(Due.BEYOND);
        }
        for (int i = 0; i < size(s); i++) {
            put(s, i, world.on(i).known(rope));
        }
        return size(s);
    }

    int read(int s) {
        if (s < 0 || s > 3) {
            return find(Due.BEYOND);
        }
        if (sheets[s] == null) {
            return find(Due.MISSING);
        }
        List<Long> line = new ArrayList<>();
        for (int i = 0; i < size(s); i++) {
            long v = get(s, i);
            if (v < 0 || v >= world.size() || line.contains(v)) {
                return 1 + i;
            }
            if (i > 0 && !world.bends((int) get(s, i - 1), (int) v)) {
                return 1 + i;
            }
            line.add(v);
        }
        return 0;
    }

    int image() {
        image = world.twin();
        return 1;
    }

    int undo() {
        if (image == null) {
            return find(Due.NONE);
        }
        world = image.twin();
        return world.size();
    }

    int tear() {
        int did = image == null ? 0 : 1;
        image = null;
        return did;
    }

    int count(int what) {
        switch (what) {
            case 0: return world.size();
            case 1: return tape.length();
            case 2: return sum(i -> world.ropes.get(i).end >= 0 ? 1 : 0);
            case 3: return sum(i -> world.known(i) == 0 ? 1 : 0);
            default: return find(Due.BEYOND);
        }
    }

    int status(int which) {
        if (which < -1 || which > 6) {
            return find(Due.BEYOND);
        }
        return which < 0 ? Arrays.stream(told).sum() : told[which];
    }
}
