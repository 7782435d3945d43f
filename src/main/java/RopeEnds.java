/**
 * A ship's store of ropes that must be introduced before they bend to each other.
 * The document's promises are kept by the public methods below; the rules behind them
 * stand in the classes inside. Nothing is made after the constructor: all rows are used again.
 */
public final class RopeEnds {
    private static final int BEYOND = -1000000001;
    private static final int FULL = -1000000002;
    private static final int KIND = -1000000003;
    private static final int NONE = -1000000004;
    private static final int STATE = -1000000005;
    private static final int MISSING = -1000000006;
    private static final int SIZE = -1000000007;
    private static final int FINDINGS = 7;

    private static final int MOST_ROPES = 8;
    private static final int MOST_HOUR = 99999;
    private static final int MOST_HOURS_AT_ONCE = 60;
    private static final int MOST_HOURS_TO_WAIT = 100;
    private static final int DAY = 24;
    private static final int MORNING = 6;
    private static final int EVENING = 20;
    private static final int LEAST_LENGTH_IN_GALE = 20;
    private static final int LOST_IN_A_BEND = 2;

    private static final int KINDS = 6;
    private static final int PLAIN_ROPE = 0;
    private static final int WARP = 1;
    private static final int CABLE = 2;
    private static final int TWINE = 3;
    private static final int HAWSER = 4;
    private static final int BELL = 5;
    /** Of each kind the one above it; a plain rope (0) has none, a hawser's is warp (1), a bell's cable (2). */
    private static final int[] ABOVE = {-1, 0, 0, 0, 1, 2};

    private static final int LENGTH = 1;
    private static final int FIBRE = 2;
    private static final int PRIDE = 3;
    private static final int TAR = 4;
    /** The bounds of what a rope may be given, by the number of what it is; place 0 is the kind's. */
    private static final int[] LEAST = {0, 1, 0, 0, 0};
    private static final int[] MOST = {5, 999, 3, 9, 99};
    private static final int FIBRES = 4;
    private static final int HAWSER_SHUNS = 3;
    private static final int NO_END = -1;

    private static final int MOST_BYTES = 120;
    private static final int MOST_FED = 4;
    private static final int SHEETS = 4;
    private static final int MOST_NUMBERS = 40;

    private final Hold live = new Hold();
    private final Hold kept = new Hold();
    /** Where things are tried out that must not change what there is. */
    private final Hold trial = new Hold();
    private final Bending bending = new Bending();
    private final Tape tape = new Tape();
    private final Page[] pages = new Page[SHEETS];
    private final int[] told = new int[FINDINGS];
    private boolean keeps = false;

    public RopeEnds() {
        for (int s = 0; s < SHEETS; s++) {
            pages[s] = new Page();
        }
    }

    // ---- ropes

    public int rope(int kind) {
        if (!isKind(kind)) {
            return finding(BEYOND);
        }
        if (live.isFull()) {
            return finding(FULL);
        }
        return live.add(kind);
    }

    public int of(int rope, int what) {
        if (!live.has(rope)) {
            return finding(BEYOND);
        }
        Strand strand = live.strands[rope];
        switch (what) {
            case 0:
                return strand.kind;
            case LENGTH:
            case FIBRE:
            case PRIDE:
            case TAR:
                return strand.trait(what);
            case 5:
                return strand.end;
            case 6:
                return strand.friends;
            case 7:
                return strand.asks();
            case 8:
                return oneIf(strand.opensAt(live.hourOfDay()));
            default:
                return finding(BEYOND);
        }
    }

    public int set(int rope, int what, int v) {
        if (!live.has(rope) || what < LENGTH || what > TAR || !mayBe(what, v)) {
            return finding(BEYOND);
        }
        Strand strand = live.strands[rope];
        int was = strand.trait(what);
        strand.give(what, v);
        return was;
    }

    public int turn(int rope, int kind) {
        if (!live.has(rope) || !isKind(kind)) {
            return finding(BEYOND);
        }
        Strand strand = live.strands[rope];
        int was = strand.kind;
        strand.kind = kind;
        return was;
    }

    public int as(int rope, int kind) {
        if (!live.has(rope) || !isKind(kind)) {
            return finding(BEYOND);
        }
        Strand strand = live.strands[rope];
        if (!isUnder(strand.kind, kind)) {
            return finding(KIND);
        }
        return strand.length;
    }

    public int meets(int rope, int other) {
        if (!live.hasBoth(rope, other)) {
            return finding(BEYOND);
        }
        return oneIf(live.oneMeets(rope, other));
    }

    // ---- calls

    public int call(int rope, int other) {
        if (!live.hasBoth(rope, other)) {
            return finding(BEYOND);
        }
        if (!live.canCall(rope, other)) {
            return finding(STATE);
        }
        // What is asked is looked at ahead: a bell asks less once it knows the caller.
        live.strands[rope].tar -= live.strands[other].asks();
        live.acquaint(rope, other);
        return Integer.bitCount(live.strands[other].friends);
    }

    public int present(int rope, int one, int other) {
        if (!live.hasBoth(rope, one) || !live.hasBoth(rope, other) || !live.hasBoth(one, other)) {
            return finding(BEYOND);
        }
        boolean knowsBoth = live.knows(rope, one) && live.knows(rope, other);
        if (!knowsBoth || live.knows(one, other) || !live.eitherMeets(one, other)) {
            return finding(STATE);
        }
        live.acquaint(one, other);
        return live.pairs();
    }

    public int forget(int rope, int other) {
        if (!live.hasBoth(rope, other)) {
            return finding(BEYOND);
        }
        int did = oneIf(live.knows(rope, other));
        live.estrange(rope, other);
        return did;
    }

    public int cut(int rope, int l) {
        if (!live.has(rope) || l < 1 || l >= live.strands[rope].length) {
            return finding(BEYOND);
        }
        if (live.isFull()) {
            return finding(FULL);
        }
        return live.sever(rope, l);
    }

    public int bends(int rope, int other) {
        if (!live.hasBoth(rope, other)) {
            return finding(BEYOND);
        }
        return oneIf(live.oneBends(rope, other));
    }

    // ---- hours

    public int gale(int v) {
        if (v < 0 || v > 1) {
            return finding(BEYOND);
        }
        int was = live.gale;
        live.gale = v;
        return was;
    }

    public int hours(int n) {
        if (n < 1 || n > MOST_HOURS_AT_ONCE) {
            return finding(BEYOND);
        }
        if (live.hour > MOST_HOUR - n) {
            return finding(STATE);
        }
        live.goOn(n);
        return live.pairs();
    }

    public int now(int what) {
        switch (what) {
            case 0:
                return live.hour;
            case 1:
                return live.hourOfDay();
            case 2:
                return live.gale;
            case 3:
                return live.pairs();
            case 4:
                return live.sumOf(LENGTH);
            case 5:
                return live.openNow();
            case 6:
                return live.sumOf(TAR);
            default:
                return finding(BEYOND);
        }
    }

    public int on(int rope, int n) {
        if (!live.has(rope) || n < 0 || n > MOST_HOURS_AT_ONCE) {
            return finding(BEYOND);
        }
        trial.takeFrom(live);
        trial.goOn(n);
        return trial.strands[rope].friends;
    }

    public int when(int rope, int other) {
        if (!live.hasBoth(rope, other)) {
            return finding(BEYOND);
        }
        if (live.knows(rope, other)) {
            return finding(STATE);
        }
        trial.takeFrom(live);
        for (int waited = 0; waited <= MOST_HOURS_TO_WAIT; waited++) {
            if (trial.canCall(rope, other)) {
                return waited;
            }
            trial.goOn(1);
        }
        return finding(NONE);
    }

    // ---- what is best

    public int longest() {
        if (live.size == 0) {
            return finding(NONE);
        }
        bending.findLines(live, live.everyone());
        return bending.longestTo(live, live.everyone());
    }

    public int line(int rope, int other) {
        if (!live.hasBoth(rope, other)) {
            return finding(BEYOND);
        }
        bending.findLines(live, 1 << rope);
        int length = bending.longestTo(live, 1 << other);
        return length == NONE ? finding(NONE) : length;
    }

    public int bent(int rope, int other) {
        if (!live.hasBoth(rope, other)) {
            return finding(BEYOND);
        }
        int fewest = bending.fewestBends(live, rope, other);
        return fewest == NONE ? finding(NONE) : fewest;
    }

    public int rounds(int rope, int other) {
        if (!live.hasBoth(rope, other)) {
            return finding(BEYOND);
        }
        trial.takeFrom(live);
        // Each round but the last makes a pair known, so there are no more than pairs.
        for (int round = 0; round <= MOST_ROPES * MOST_ROPES; round++) {
            if (trial.knows(rope, other)) {
                return round;
            }
            if (!trial.presentAll()) {
                return finding(NONE);
            }
        }
        return finding(NONE);
    }

    public int known() {
        if (live.size == 0) {
            return finding(NONE);
        }
        int best = 0;
        for (int rope = 1; rope < live.size; rope++) {
            if (live.friendsOf(rope) > live.friendsOf(best)) {
                best = rope;
            }
        }
        return best;
    }

    public int kind(int rope) {
        if (!live.has(rope)) {
            return finding(BEYOND);
        }
        trial.takeFrom(live);
        int best = 0;
        int most = -1;
        for (int k = 0; k < KINDS; k++) {
            trial.strands[rope].kind = k;
            int callers = trial.callersOn(rope);
            if (callers > most) {
                most = callers;
                best = k;
            }
        }
        return best;
    }

    public int fibre(int rope) {
        if (!live.has(rope)) {
            return finding(BEYOND);
        }
        trial.takeFrom(live);
        int best = 0;
        int most = -1;
        for (int f = 0; f < FIBRES; f++) {
            trial.strands[rope].fibre = f;
            int met = Integer.bitCount(trial.metBothWays(rope));
            if (met > most) {
                most = met;
                best = f;
            }
        }
        return best;
    }

    public int hour(int rope) {
        if (!live.has(rope)) {
            return finding(BEYOND);
        }
        int hosts = live.metBothWays(rope) & ~live.strands[rope].friends;
        int best = 0;
        int most = -1;
        for (int h = 0; h < DAY; h++) {
            int open = Integer.bitCount(live.openAt(h) & hosts);
            if (open > most) {
                most = open;
                best = h;
            }
        }
        return best;
    }

    // ---- the text

    public int feed(int bytes, int n) {
        if (n < 1 || n > MOST_FED) {
            return finding(BEYOND);
        }
        if (tape.size > MOST_BYTES - n) {
            return finding(FULL);
        }
        for (int left = n - 1; left >= 0; left--) {
            tape.append(bytes >>> (8 * left));
        }
        return tape.size;
    }

    public int wipe() {
        int had = tape.size;
        tape.size = 0;
        return had;
    }

    public int store() {
        trial.takeFrom(live);
        int items = tape.tellTo(trial);
        tape.size = 0;
        if (items >= 0) {
            live.takeFrom(trial);
        }
        return items;
    }

    // ---- sheets

    public int sheet(int s, int bits, int n) {
        boolean knownBits = bits == 0 || bits == 8 || bits == 16 || bits == 64;
        if (!isSheet(s) || !knownBits) {
            return finding(BEYOND);
        }
        if (n < 0) {
            return finding(SIZE);
        }
        if (n > MOST_NUMBERS) {
            return finding(BEYOND);
        }
        pages[s].layOut(bits, n);
        return pages[s].size;
    }

    public long write(int s, int i, long v) {
        if (!isSheet(s)) {
            return finding(BEYOND);
        }
        Page page = pages[s];
        if (page.isMissing()) {
            return finding(MISSING);
        }
        if (i < 0 || i >= page.size) {
            return finding(BEYOND);
        }
        long was = page.numbers[i];
        page.put(i, v);
        return was;
    }

    public int copy(int s, int from, int t, int to, int n) {
        if (!isSheet(s) || !isSheet(t)) {
            return finding(BEYOND);
        }
        Page source = pages[s];
        Page target = pages[t];
        if (source.isMissing() || target.isMissing()) {
            return finding(MISSING);
        }
        if (source.bits != target.bits) {
            return finding(KIND);
        }
        if (!source.hasRun(from, n) || !target.hasRun(to, n)) {
            return finding(BEYOND);
        }
        System.arraycopy(source.numbers, from, target.numbers, to, n);
        return n;
    }

    public int lays(int s) {
        if (!isSheet(s)) {
            return finding(BEYOND);
        }
        Page page = pages[s];
        if (page.isMissing()) {
            return finding(MISSING);
        }
        int came = 0;
        for (int i = 0; i < page.size && i < live.size; i++) {
            long number = page.numbers[i];
            if (number >= LEAST[LENGTH] && number <= MOST[LENGTH]) {
                live.strands[i].length = (int) number;
                came++;
            }
        }
        return came;
    }

    public int book(int s, int rope) {
        if (!isSheet(s)) {
            return finding(BEYOND);
        }
        Page page = pages[s];
        if (page.isMissing()) {
            return finding(MISSING);
        }
        if (!live.has(rope)) {
            return finding(BEYOND);
        }
        trial.takeFrom(live);
        for (int i = 0; i < page.size; i++) {
            page.put(i, trial.friendsOf(rope));
            trial.goOn(1);
        }
        return page.size;
    }

    public int read(int s) {
        if (!isSheet(s)) {
            return finding(BEYOND);
        }
        Page page = pages[s];
        if (page.isMissing()) {
            return finding(MISSING);
        }
        int seen = 0;
        int ahead = -1;
        for (int i = 0; i < page.size; i++) {
            long number = page.numbers[i];
            if (number < 0 || number >= live.size) {
                return 1 + i;
            }
            int rope = (int) number;
            boolean wasThere = (seen >> rope & 1) == 1;
            if (wasThere || i > 0 && !live.oneBends(ahead, rope)) {
                return 1 + i;
            }
            seen |= 1 << rope;
            ahead = rope;
        }
        return 0;
    }

    // ---- images

    public int image() {
        kept.takeFrom(live);
        keeps = true;
        return 1;
    }

    public int undo() {
        if (!keeps) {
            return finding(NONE);
        }
        live.takeFrom(kept);
        return live.size;
    }

    public int tear() {
        int did = oneIf(keeps);
        keeps = false;
        return did;
    }

    public int count(int what) {
        switch (what) {
            case 0:
                return live.size;
            case 1:
                return tape.size;
            case 2:
                return live.withAnEnd();
            case 3:
                return live.withoutFriends();
            default:
                return finding(BEYOND);
        }
    }

    public int status(int which) {
        if (which < -1 || which >= FINDINGS) {
            return finding(BEYOND);
        }
        if (which >= 0) {
            return told[which];
        }
        int all = 0;
        for (int i = 0; i < FINDINGS; i++) {
            all += told[i];
        }
        return all;
    }

    // ---- what several of these use

    private int finding(int answer) {
        int place = BEYOND - answer;
        if (place >= 0 && place < FINDINGS) {
            told[place]++;
        }
        return answer;
    }

    private static int oneIf(boolean so) {
        return so ? 1 : 0;
    }

    private static boolean isKind(int kind) {
        return kind >= 0 && kind < KINDS;
    }

    private static boolean isSheet(int s) {
        return s >= 0 && s < SHEETS;
    }

    private static boolean mayBe(int what, int v) {
        return what >= 0 && what < LEAST.length && what < MOST.length && v >= LEAST[what] && v <= MOST[what];
    }

    /** Whether a kind is a certain one, or of those under it, however far. */
    private static boolean isUnder(int kind, int top) {
        int k = kind;
        for (int level = 0; level < KINDS && isKind(k); level++) {
            if (k == top) {
                return true;
            }
            k = ABOVE[k];
        }
        return false;
    }

    /** One rope, and what its kind makes of it. */
    private static final class Strand {
        int kind;
        int length;
        int fibre;
        int pride;
        int tar;
        int end;
        /** Whom it knows, a bit for each. */
        int friends;

        void makeNew(int newKind) {
            kind = newKind;
            length = 50;
            fibre = 0;
            pride = 3;
            tar = 5;
            end = NO_END;
            friends = 0;
        }

        void takeFrom(Strand other) {
            kind = other.kind;
            length = other.length;
            fibre = other.fibre;
            pride = other.pride;
            tar = other.tar;
            end = other.end;
            friends = other.friends;
        }

        int trait(int what) {
            switch (what) {
                case LENGTH:
                    return length;
                case FIBRE:
                    return fibre;
                case PRIDE:
                    return pride;
                default:
                    return tar;
            }
        }

        void give(int what, int v) {
            switch (what) {
                case LENGTH:
                    length = v;
                    break;
                case FIBRE:
                    fibre = v;
                    break;
                case PRIDE:
                    pride = v;
                    break;
                default:
                    tar = v;
                    break;
            }
        }

        boolean meetsFibre(int f) {
            boolean isNear = f - fibre <= 1 && fibre - f <= 1;
            switch (kind) {
                case WARP:
                    return isNear;
                case TWINE:
                    return true;
                case HAWSER:
                    return isNear && f != HAWSER_SHUNS;
                case BELL:
                    return f != fibre;
                default:
                    return f == fibre;
            }
        }

        int asks() {
            switch (kind) {
                case CABLE:
                    return 2 * pride;
                case TWINE:
                    return 0;
                case HAWSER:
                    return pride + 2;
                case BELL:
                    return Math.max(0, 2 * pride - Integer.bitCount(friends));
                default:
                    return pride;
            }
        }

        boolean opensAt(int h) {
            boolean forenoon = h >= 8 && h <= 11;
            boolean oddForenoon = forenoon && h % 2 == 1;
            switch (kind) {
                case WARP:
                case HAWSER:
                    return forenoon || h == 12;
                case CABLE:
                    return oddForenoon;
                case TWINE:
                    return true;
                case BELL:
                    return oddForenoon || h == 16;
                default:
                    return forenoon;
            }
        }
    }

    /**
     * All that section 1 of the document tells, the tape left out: the hour, the gale, the ropes.
     * Its methods take only ropes that are there: the public ones ask for that first.
     */
    private static final class Hold {
        int hour = 0;
        int gale = 0;
        int size = 0;
        final Strand[] strands = new Strand[MOST_ROPES];
        /** Whom each knew as a round began. */
        private final int[] friendsBefore = new int[MOST_ROPES];

        Hold() {
            for (int i = 0; i < MOST_ROPES; i++) {
                strands[i] = new Strand();
            }
        }

        void takeFrom(Hold other) {
            hour = other.hour;
            gale = other.gale;
            size = other.size;
            for (int i = 0; i < size; i++) {
                strands[i].takeFrom(other.strands[i]);
            }
        }

        boolean has(int rope) {
            return rope >= 0 && rope < size;
        }

        boolean hasBoth(int rope, int other) {
            return has(rope) && has(other) && rope != other;
        }

        boolean isFull() {
            return size >= MOST_ROPES;
        }

        int everyone() {
            return (1 << size) - 1;
        }

        /** A new rope's number; the caller has asked whether there is room. */
        int add(int newKind) {
            int number = size;
            strands[number].makeNew(newKind);
            size++;
            return number;
        }

        /** Cuts a rope in two: the number of the new one. */
        int sever(int rope, int l) {
            Strand old = strands[rope];
            int number = add(old.kind);
            Strand rest = strands[number];
            rest.length = old.length - l;
            rest.fibre = old.fibre;
            rest.pride = old.pride;
            rest.tar = 0;
            old.length = l;
            if (has(old.end)) {
                strands[old.end].end = NO_END;
            }
            old.end = number;
            rest.end = rope;
            for (int i = 0; i < number; i++) {
                if (knows(rope, i)) {
                    acquaint(number, i);
                }
            }
            return number;
        }

        // ---- who knows whom

        boolean knows(int rope, int other) {
            return (strands[rope].friends >> other & 1) == 1;
        }

        void acquaint(int rope, int other) {
            strands[rope].friends |= 1 << other;
            strands[other].friends |= 1 << rope;
        }

        void estrange(int rope, int other) {
            strands[rope].friends &= ~(1 << other);
            strands[other].friends &= ~(1 << rope);
        }

        int friendsOf(int rope) {
            return Integer.bitCount(strands[rope].friends);
        }

        int pairs() {
            int twice = 0;
            for (int i = 0; i < size; i++) {
                twice += friendsOf(i);
            }
            return twice / 2;
        }

        int withoutFriends() {
            int n = 0;
            for (int i = 0; i < size; i++) {
                n += strands[i].friends == 0 ? 1 : 0;
            }
            return n;
        }

        int withAnEnd() {
            int n = 0;
            for (int i = 0; i < size; i++) {
                n += strands[i].end == NO_END ? 0 : 1;
            }
            return n;
        }

        // ---- who meets, calls, presents, bends

        boolean oneMeets(int rope, int other) {
            return strands[rope].meetsFibre(strands[other].fibre);
        }

        boolean eitherMeets(int rope, int other) {
            return oneMeets(rope, other) || oneMeets(other, rope);
        }

        boolean bothMeet(int rope, int other) {
            return oneMeets(rope, other) && oneMeets(other, rope);
        }

        int metBothWays(int rope) {
            int met = 0;
            for (int i = 0; i < size; i++) {
                if (i != rope && bothMeet(rope, i)) {
                    met |= 1 << i;
                }
            }
            return met;
        }

        boolean canCall(int rope, int other) {
            Strand host = strands[other];
            return !knows(rope, other) && bothMeet(rope, other)
                && host.opensAt(hourOfDay()) && strands[rope].tar >= host.asks();
        }

        int callersOn(int rope) {
            int n = 0;
            for (int i = 0; i < size; i++) {
                if (i != rope && canCall(i, rope)) {
                    n++;
                }
            }
            return n;
        }

        /** A round of presenting, by what was known as it began: whether any pair came to know each other. */
        boolean presentAll() {
            for (int i = 0; i < size; i++) {
                friendsBefore[i] = strands[i].friends;
            }
            boolean any = false;
            for (int a = 0; a < size; a++) {
                for (int b = a + 1; b < size; b++) {
                    boolean shareAFriend = (friendsBefore[a] & friendsBefore[b]) != 0;
                    if (shareAFriend && !knows(a, b) && eitherMeets(a, b)) {
                        acquaint(a, b);
                        any = true;
                    }
                }
            }
            return any;
        }

        boolean oneBends(int rope, int other) {
            boolean noTwine = strands[rope].kind != TWINE && strands[other].kind != TWINE;
            return noTwine && (knows(rope, other) || isWildNight());
        }

        // ---- the hours

        int hourOfDay() {
            return hour % DAY;
        }

        private boolean isWildNight() {
            int h = hourOfDay();
            return gale == 1 && (h >= EVENING || h < MORNING);
        }

        int openNow() {
            return openAt(hourOfDay());
        }

        int openAt(int h) {
            int open = 0;
            for (int i = 0; i < size; i++) {
                if (strands[i].opensAt(h)) {
                    open |= 1 << i;
                }
            }
            return open;
        }

        void goOn(int n) {
            for (int i = 0; i < n; i++) {
                goOneHour();
            }
        }

        private void goOneHour() {
            if (hourOfDay() == 0) {
                giveTar();
            }
            if (isWildNight()) {
                takeHold();
            }
            if (gale == 1 && hourOfDay() == MORNING) {
                notNotice();
                gale = 0;
            }
            hour++;
        }

        private void giveTar() {
            for (int i = 0; i < size; i++) {
                strands[i].tar = Math.min(MOST[TAR], strands[i].tar + 1);
            }
        }

        private void takeHold() {
            for (int a = 0; a < size; a++) {
                for (int b = a + 1; b < size; b++) {
                    if (holdsInGale(a) && holdsInGale(b) && !knows(a, b)) {
                        acquaint(a, b);
                        return;
                    }
                }
            }
        }

        private boolean holdsInGale(int rope) {
            return strands[rope].kind != TWINE && strands[rope].length >= LEAST_LENGTH_IN_GALE;
        }

        private void notNotice() {
            for (int a = 0; a < size; a++) {
                for (int b = a + 1; b < size; b++) {
                    if (!eitherMeets(a, b)) {
                        estrange(a, b);
                    }
                }
            }
        }

        // ---- sums

        int sumOf(int what) {
            int sum = 0;
            for (int i = 0; i < size; i++) {
                sum += strands[i].trait(what);
            }
            return sum;
        }

        /** The length of a line of these ropes: it is the same in whatever order they are bent. */
        int lengthOfLine(int ropes) {
            int sum = 0;
            for (int i = 0; i < size; i++) {
                if ((ropes >> i & 1) == 1) {
                    sum += strands[i].length;
                }
            }
            return sum - LOST_IN_A_BEND * (Integer.bitCount(ropes) - 1);
        }
    }

    /** Lines of bent ropes. A line's length goes by the set of its ropes, so sets are gone through, not orders. */
    private static final class Bending {
        /** By the set of a line's ropes: those at which it can end. */
        private final int[] endsOf = new int[1 << MOST_ROPES];
        /** By rope: those to which it bends. */
        private final int[] bendsTo = new int[MOST_ROPES];

        private void lookWhoBends(Hold hold) {
            for (int a = 0; a < hold.size; a++) {
                bendsTo[a] = 0;
                for (int b = 0; b < hold.size; b++) {
                    if (a != b && hold.oneBends(a, b)) {
                        bendsTo[a] |= 1 << b;
                    }
                }
            }
        }

        /** All lines that begin at one of some ropes. */
        void findLines(Hold hold, int starts) {
            lookWhoBends(hold);
            for (int set = 0; set < endsOf.length; set++) {
                endsOf[set] = 0;
            }
            for (int i = 0; i < hold.size; i++) {
                endsOf[1 << i] = starts & 1 << i;
            }
            int all = hold.everyone();
            for (int set = 1; set <= all; set++) {
                for (int next = 0; next < hold.size; next++) {
                    boolean isNew = (set >> next & 1) == 0;
                    if (isNew && (bendsTo[next] & endsOf[set]) != 0) {
                        endsOf[set | 1 << next] |= 1 << next;
                    }
                }
            }
        }

        /** The greatest length of the lines found that end at one of some ropes, or NONE. */
        int longestTo(Hold hold, int ends) {
            int longest = NONE;
            int all = hold.everyone();
            for (int set = 1; set <= all; set++) {
                if ((endsOf[set] & ends) != 0) {
                    longest = Math.max(longest, hold.lengthOfLine(set));
                }
            }
            return longest;
        }

        /** The fewest bends from one rope to another one, or NONE. */
        int fewestBends(Hold hold, int rope, int other) {
            lookWhoBends(hold);
            int reached = 1 << rope;
            for (int bends = 1; bends < hold.size; bends++) {
                int further = reached;
                for (int i = 0; i < hold.size; i++) {
                    if ((bendsTo[i] & reached) != 0) {
                        further |= 1 << i;
                    }
                }
                reached = further;
                if ((reached >> other & 1) == 1) {
                    return bends;
                }
            }
            return NONE;
        }
    }

    /** The tape, and the reading of it as the text of a store. */
    private static final class Tape {
        private static final int ENDED = 0;
        private static final int WORD = 1;
        private static final int NUMBER = 2;
        private static final int SIGN = 3;
        private static final int BLANK = 4;
        private static final int NO_TOKEN = 5;
        /** What a number too great for any place counts as. */
        private static final int TOO_GREAT = 1000;

        int size = 0;
        private final byte[] bytes = new byte[MOST_BYTES];
        private int sort = ENDED;
        private int start = 0;
        private int after = 0;
        private int number = 0;

        void append(int v) {
            if (size < MOST_BYTES) {
                bytes[size] = (byte) v;
                size++;
            }
        }

        /** Brings the text's items to a hold: how many, or -1 less the place of a fault. */
        int tellTo(Hold hold) {
            after = 0;
            step();
            // An item and the sign behind it take two bytes at least, so this many are never read.
            for (int items = 1; items <= MOST_BYTES; items++) {
                if (!takeItem(hold)) {
                    return -1 - start;
                }
                if (sort == ENDED) {
                    return items;
                }
                if (sort != SIGN) {
                    return -1 - start;
                }
                step();
            }
            return -1 - start;
        }

        // The methods that take something answer false at a fault, and stay at the token that makes it.

        private boolean takeItem(Hold hold) {
            int kind = kindNamed();
            if (isKind(kind)) {
                return takeRope(hold, kind);
            }
            if (isWord("know")) {
                return takeKnow(hold);
            }
            if (isWord("gale")) {
                return takeWeather(hold, 1);
            }
            if (isWord("calm")) {
                return takeWeather(hold, 0);
            }
            return false;
        }

        private boolean takeWeather(Hold hold, int gale) {
            hold.gale = gale;
            step();
            return true;
        }

        private boolean takeRope(Hold hold, int kind) {
            if (hold.isFull()) {
                return false;
            }
            Strand strand = hold.strands[hold.add(kind)];
            step();
            return takeTrait(strand, "long", LENGTH) && takeTrait(strand, "fibre", FIBRE)
                && takeTrait(strand, "pride", PRIDE) && takeTrait(strand, "tar", TAR);
        }

        private boolean takeTrait(Strand strand, String word, int what) {
            if (!isWord(word)) {
                return true;
            }
            step();
            if (sort != NUMBER || !mayBe(what, number)) {
                return false;
            }
            strand.give(what, number);
            step();
            return true;
        }

        private boolean takeKnow(Hold hold) {
            step();
            if (sort != NUMBER || !hold.has(number)) {
                return false;
            }
            int rope = number;
            step();
            if (sort != NUMBER || !hold.hasBoth(rope, number)) {
                return false;
            }
            hold.acquaint(rope, number);
            step();
            return true;
        }

        private int kindNamed() {
            for (int k = 0; k < KINDS; k++) {
                if (isWord(nameOf(k))) {
                    return k;
                }
            }
            return -1;
        }

        private static String nameOf(int kind) {
            switch (kind) {
                case PLAIN_ROPE:
                    return "rope";
                case WARP:
                    return "warp";
                case CABLE:
                    return "cable";
                case TWINE:
                    return "twine";
                case HAWSER:
                    return "hawser";
                default:
                    return "bell";
            }
        }

        /** Whether the token is this word; a word stands on the tape whole, so all its places are there. */
        private boolean isWord(String word) {
            if (sort != WORD || after - start != word.length()) {
                return false;
            }
            for (int i = 0; i < word.length(); i++) {
                if (bytes[start + i] != word.charAt(i)) {
                    return false;
                }
            }
            return true;
        }

        // ---- tokens

        /** Goes on to the next token; at the end of the tape it stands behind the last byte. */
        private void step() {
            start = after;
            while (start < size && sortOf(bytes[start]) == BLANK) {
                start++;
            }
            sort = start < size ? sortOf(bytes[start]) : ENDED;
            boolean isLong = sort == WORD || sort == NUMBER;
            int bound = isLong ? size : Math.min(size, start + 1);
            number = 0;
            after = start;
            while (after < bound && sortOf(bytes[after]) == sort) {
                if (sort == NUMBER) {
                    number = Math.min(TOO_GREAT, 10 * number + bytes[after] - '0');
                }
                after++;
            }
        }

        /** The sort of token that a byte belongs to. */
        private static int sortOf(byte b) {
            if (b >= 'a' && b <= 'z') {
                return WORD;
            }
            if (b >= '0' && b <= '9') {
                return NUMBER;
            }
            if (b == ';') {
                return SIGN;
            }
            return b == ' ' ? BLANK : NO_TOKEN;
        }
    }

    /** A sheet: numbers with a sign, each as wide as the sheet's bits; of no bits if it is missing. */
    private static final class Page {
        int bits = 0;
        int size = 0;
        final long[] numbers = new long[MOST_NUMBERS];

        boolean isMissing() {
            return bits == 0;
        }

        void layOut(int newBits, int n) {
            bits = newBits;
            size = newBits == 0 ? 0 : n;
            for (int i = 0; i < MOST_NUMBERS; i++) {
                numbers[i] = 0;
            }
        }

        void put(int i, long v) {
            numbers[i] = bits == 8 ? (byte) v : bits == 16 ? (short) v : v;
        }

        /** Whether it has n numbers from one on; asked without adding, which could go round. */
        boolean hasRun(int from, int n) {
            return from >= 0 && n >= 0 && n <= size && from <= size - n;
        }
    }
}
