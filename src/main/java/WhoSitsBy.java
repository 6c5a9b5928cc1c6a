/**
 * Who sits by whom: pupils on eight seats at desks of two, the rooms that say what a pair is worth,
 * what a sitting is worth and breaks, talk, slips, months, lots, acts, tapes and an image.
 */
public final class WhoSitsBy {
    public static final int NONE = -1, BAD = -2, STATE = -3, FULL = -4;
    public static final long NO = Long.MIN_VALUE;

    private static final int NOBODY = -5;
    private static final int TOO_MANY = -9;
    private static final int FAULT = -10;
    private static final int NOTHING = -11;
    private static final int CAST = -12;
    private static final int PLACE = -13;
    private static final int SIZE = -14;
    // where -1 and -2 may be honest answers, NONE and BAD are told far below them
    private static final int FAR_NONE = -100001;
    private static final int FAR_BAD = -100002;

    private static final int SEATS = 8;
    private static final int BACK = 4;
    private static final int FREE = -1;
    private static final int ROOMS = 6;
    private static final int TEXT = 100;
    private static final int HUSH = 5;
    private static final int MINUTES = 60;
    private static final int CARRY_MINUTES = 30;
    private static final int BEST_PUPILS = 5;
    private static final int NEXT_PUPILS = 6;

    // what a search for a sitting looks at; the first two are the numbers of the rule left out
    private static final int WITHOUT_BARS = 0;
    private static final int WITHOUT_FRONTS = 1;
    private static final int ALL_RULES = 2;
    private static final int NEW_PAIRS = 3;

    private static final int TAPES = 6;
    private static final int ITEMS = 60;
    private static final int NO_SORT = -1;
    private static final int BYTES = 0;
    private static final int SHORTS = 1;
    private static final int INTS = 2;
    private static final int BOOLEANS = 4;

    private final Standing now = new Standing();
    private final Standing kept = new Standing();
    private boolean imaged;

    private final byte[] text = new byte[TEXT];
    private int textLength;
    private final Room[] rooms = new Room[ROOMS];
    private final Room bare = new Room();
    private int roomCount;

    private final Sittings sittings = new Sittings();
    private boolean counted;

    private final Trace traced = new Trace();

    private final long[][] items = new long[TAPES][ITEMS];
    private final int[] sorts = new int[TAPES];
    private final int[] sizes = new int[TAPES];

    public WhoSitsBy() {
        for (int r = 0; r < rooms.length; r++) {
            rooms[r] = new Room();
        }
        for (int t = 0; t < sorts.length; t++) {
            sorts[t] = NO_SORT;
        }
    }

    // ---- pupils, seats, rooms

    public int pupil(int kind, int v, int talks, int knows, int tongue) {
        if (kind < 0 || kind > 6) {
            return NONE;
        }
        if (!isDigit(v) || !isDigit(talks) || !isDigit(knows) || tongue < 0 || tongue > 2) {
            return BAD;
        }
        if (now.size >= SEATS) {
            return FULL;
        }
        int number = now.size;
        now.add(made(kind, number, v, talks, knows, tongue));
        counted = false;
        return number;
    }

    public int of(int pupil, int what) {
        Pupil one = now.at(pupil);
        if (one == null) {
            return NONE;
        }
        switch (what) {
            case 0: return one.kind();
            case 1: return one.v;
            case 2: return one.talkative;
            case 3: return one.knowing;
            case 4: return one.tongue;
            case 5: return now.needsFront(pupil) ? 1 : 0;
            case 6: return orNobody(now.whomNames(pupil));
            case 7: return seatIn(now.sitters, pupil);
            case 8: return orNobody(now.besideOf(pupil));
            default: return NONE;
        }
    }

    public int front(int pupil, boolean is) {
        if (now.at(pupil) == null) {
            return NONE;
        }
        int before = now.needsFront(pupil) ? 1 : 0;
        now.setFront(pupil, is);
        return before;
    }

    public int name(int pupil, int other) {
        if (now.at(pupil) == null || other != FREE && now.at(other) == null) {
            return NONE;
        }
        if (pupil == other) {
            return BAD;
        }
        int before = now.whomNames(pupil);
        now.setSlip(pupil, other);
        counted = false;
        return orNobody(before);
    }

    public int sit(int pupil, int seat) {
        if (now.at(pupil) == null || seat < 0 || seat >= SEATS) {
            return NONE;
        }
        int before = seatIn(now.sitters, pupil);
        exchange(now.sitters, before, seat);
        return before;
    }

    public int feed(int sign) {
        if (sign < 0 || sign > 127) {
            return BAD;
        }
        if (textLength < 0 || textLength >= text.length) {
            return FULL;
        }
        text[textLength] = (byte) sign;
        textLength++;
        return textLength;
    }

    public int room() {
        if (roomCount >= ROOMS) {
            return FULL;
        }
        int fault = roomAt(roomCount).take(text, textLength);
        textLength = 0;
        if (fault >= 0) {
            return FAULT - fault;
        }
        now.held = roomCount;
        roomCount++;
        counted = false;
        return now.held;
    }

    public int pair(int a, int b, int row, int what) {
        Pupil one = now.at(a);
        Pupil by = now.at(b);
        if (one == null || by == null || row < 0 || row > 1 || what < 0 || what > 3) {
            return FAR_NONE;
        }
        if (a == b) {
            return FAR_BAD;
        }
        Room held = roomAt(now.held);
        switch (what) {
            case 0: return held.learns(one, by, row, now);
            case 1: return held.louds(one, by, row, now);
            case 2: return held.isBarred(one, by, row, now) ? 1 : 0;
            default: return held.worth(one, by, row, now) - one.burden() * acrossOf(a);
        }
    }

    // ---- sittings

    public int sitting(int what) {
        switch (what) {
            case 0: return tables().worthOf(now.sitters);
            case 1: return tables().breaksOf(now.sitters, now, ALL_RULES);
            case 2: return roomAt(now.held).hush();
            default: return FAR_NONE;
        }
    }

    public int swap() {
        return tables().bestExchange(now);
    }

    public int best(int k) {
        if (k < -2 || k >= now.size) {
            return FAR_NONE;
        }
        if (now.size > BEST_PUPILS) {
            return TOO_MANY;
        }
        Sittings found = tables();
        found.search(now, ALL_RULES);
        if (k == -2) {
            return found.foundBreaks;
        }
        return k == -1 ? found.foundWorth : seatIn(found.found, k);
    }

    public int cost(int rule) {
        if (rule != WITHOUT_BARS && rule != WITHOUT_FRONTS) {
            return NONE;
        }
        if (now.size > BEST_PUPILS) {
            return TOO_MANY;
        }
        Sittings found = tables();
        found.search(now, ALL_RULES);
        int with = found.foundWorth;
        found.search(now, rule);
        return found.foundWorth - with;
    }

    // ---- talk

    public int talk(int first, int minute) {
        if (!now.arePupils(first) || minute < 0 || minute > MINUTES) {
            return BAD;
        }
        return talkersIn(first, minute);
    }

    public int noise(int first, int minute, int what) {
        if (what != 0 && what != 1) {
            return NONE;
        }
        if (!now.arePupils(first) || minute < 0 || minute > MINUTES) {
            return BAD;
        }
        return what == 0 ? now.loudness(talkersIn(first, minute)) : firstStill(first);
    }

    public int carries(int first, int n) {
        if (!now.arePupils(first) || n < 0 || n > CARRY_MINUTES) {
            return BAD;
        }
        if (now.size == 0) {
            return NOBODY;
        }
        int least = 0;
        int leastNoise = noiseWithout(0, first, n);
        for (int p = 1; p < now.size; p++) {
            int sum = noiseWithout(p, first, n);
            if (sum < leastNoise) {
                least = p;
                leastNoise = sum;
            }
        }
        return least;
    }

    // ---- slips, months, lots

    public int named(int pupil) {
        return now.at(pupil) == null ? NONE : now.namersOf(pupil);
    }

    public int slips(int what) {
        switch (what) {
            case 0: return now.aloneBits();
            case 1: return now.closedBits();
            default: return NONE;
        }
    }

    public int month() {
        return now.putDown();
    }

    public int lacks(int what) {
        int lacking = now.size * (now.size - 1) / 2 - Long.bitCount(now.pairs);
        switch (what) {
            case 0: return lacking;
            case 1: return lacking == 0 ? 1 : 0;
            default: return NONE;
        }
    }

    public int next(int k) {
        if (k < -1 || k >= now.size) {
            return FAR_NONE;
        }
        if (now.size > NEXT_PUPILS) {
            return TOO_MANY;
        }
        sittings.search(now, NEW_PAIRS);
        return k == -1 ? sittings.foundWorth : seatIn(sittings.found, k);
    }

    public long mean(int part) {
        if (part != 0 && part != 1) {
            return NO;
        }
        // two told pupils are neighbours in a told row by 1 of 14: two desks of the 28 pairs of seats
        long above = tables().worthOfAllPairs(now.size);
        long below = 14;
        if (above % 2 == 0) {
            above /= 2;
            below /= 2;
        }
        if (above % 7 == 0) {
            above /= 7;
            below /= 7;
        }
        return part == 0 ? above : below;
    }

    public long both(int one, int other, int part) {
        if (!isPair(one) || !isPair(other) || part != 0 && part != 1) {
            return NO;
        }
        int shared = Integer.bitCount(pairBits(one) & pairBits(other));
        if (shared == 1) {
            return part;
        }
        // the seat beside the first one is theirs by 1 of 7; two others by 1 of 5 of what is left
        int below = shared == 2 ? 7 : 35;
        return part == 0 ? 1 : below;
    }

    // ---- judging, the image, acts, tapes

    public int judge(int tape, int i) {
        if (!isTape(tape)) {
            return NONE;
        }
        if (sorts[tape] != NO_SORT && sorts[tape] != SHORTS) {
            return CAST;
        }
        for (int p = 0; p < now.size; p++) {
            if (i < 0 || i >= sizes[tape] - p || !isPlace(tape, i + p)) {
                return 100 + p;
            }
            if (items[tape][i + p] != seatIn(now.sitters, p)) {
                return p;
            }
        }
        return NOBODY;
    }

    public int image() {
        kept.copy(now);
        imaged = true;
        return now.size;
    }

    public int undo() {
        if (!imaged) {
            return STATE;
        }
        now.copy(kept);
        counted = false;
        return now.size;
    }

    public int act(int pupil, int act, int x) {
        traced.clear();
        Pupil one = now.at(pupil);
        if (one == null) {
            return 0;
        }
        switch (act) {
            case 0: return one.sits(x, traced);
            case 1: return one.talks(x, traced);
            case 2: return one.tells(x, traced);
            default: return 0;
        }
    }

    public int trace(int i) {
        return traced.body(i);
    }

    public int taken(int pupil, int k) {
        if (k < 0 || k > 6) {
            return BAD;
        }
        Pupil one = now.at(pupil);
        if (one == null) {
            return NOTHING;
        }
        return isOfKind(one, k) ? one.kind() : CAST;
    }

    public int count(int what) {
        switch (what) {
            case 0: return now.size;
            case 1: return roomCount;
            case 2: return Long.bitCount(now.pairs);
            case 3: return textLength;
            case 4: return traced.ran;
            default: return BAD;
        }
    }

    public int tape(int tape, int sort, int n) {
        if (!isTape(tape)) {
            return NONE;
        }
        if (sort < NO_SORT || sort > BOOLEANS || sort != NO_SORT && n > ITEMS) {
            return BAD;
        }
        if (sort != NO_SORT && n < 0) {
            return SIZE;
        }
        sorts[tape] = sort;
        sizes[tape] = sort == NO_SORT ? 0 : n;
        for (int i = 0; i < items[tape].length; i++) {
            items[tape][i] = 0;
        }
        return 1;
    }

    public int item(int tape, int i, long v) {
        if (!isTape(tape)) {
            return NONE;
        }
        if (sorts[tape] == NO_SORT) {
            return NOTHING;
        }
        if (!isPlace(tape, i)) {
            return PLACE;
        }
        items[tape][i] = asSort(sorts[tape], v);
        return 1;
    }

    public long read(int tape, int i) {
        return isTape(tape) && isPlace(tape, i) ? items[tape][i] : NO;
    }

    public int shift(int tape, int i, int other, int j, int n) {
        if (!isTape(tape) || !isTape(other)) {
            return NONE;
        }
        if (sorts[tape] == NO_SORT || sorts[other] == NO_SORT) {
            return NOTHING;
        }
        if (sorts[tape] != sorts[other]) {
            return CAST;
        }
        if (!isStretch(tape, i, n) || !isStretch(other, j, n)) {
            return PLACE;
        }
        System.arraycopy(items[tape], i, items[other], j, n);
        return n;
    }

    // ---- what the calls share

    private static boolean isDigit(int n) {
        return n >= 0 && n <= 9;
    }

    private static int orNobody(int pupil) {
        return pupil < 0 ? NOBODY : pupil;
    }

    private static boolean hasBit(int bits, int p) {
        return p >= 0 && p < SEATS && (bits >> p & 1) != 0;
    }

    private static int seatIn(int[] sitters, int pupil) {
        for (int seat = 0; seat < sitters.length; seat++) {
            if (sitters[seat] == pupil) {
                return seat;
            }
        }
        return FREE;
    }

    private static void exchange(int[] sitters, int a, int b) {
        if (a < 0 || a >= sitters.length || b < 0 || b >= sitters.length) {
            return;
        }
        int first = sitters[a];
        sitters[a] = sitters[b];
        sitters[b] = first;
    }

    private static int sittersAt(int[] sitters, int desk) {
        int seat = 2 * desk;
        if (seat < 0 || seat + 1 >= sitters.length) {
            return 0;
        }
        return (sitters[seat] == FREE ? 0 : 1) + (sitters[seat + 1] == FREE ? 0 : 1);
    }

    private static Pupil made(int kind, int number, int v, int talks, int knows, int tongue) {
        switch (kind) {
            case 1: return new Helping(number, v, talks, knows, tongue);
            case 2: return new Talker(number, v, talks, knows, tongue);
            case 3: return new Wished(number, v, talks, knows, tongue);
            case 4: return new Left(number, v, talks, knows, tongue);
            case 5: return new Carrier(number, v, talks, knows, tongue);
            case 6: return new Hoped(number, v, talks, knows, tongue);
            default: return new Pupil(number, v, talks, knows, tongue);
        }
    }

    private static boolean isOfKind(Pupil one, int kind) {
        switch (kind) {
            case 0: return true;
            case 1: return one instanceof Helping;
            case 2: return one instanceof Talker;
            case 3: return one instanceof Wished;
            case 4: return one instanceof Left;
            case 5: return one instanceof Carrier;
            case 6: return one instanceof Hoped;
            default: return false;
        }
    }

    private Room roomAt(int r) {
        Room one = r >= 0 && r < rooms.length ? rooms[r] : bare;
        return one == null ? bare : one;
    }

    // the tables hang on pupils, slips and the room alone: who moves leaves them as they are
    private Sittings tables() {
        if (!counted) {
            sittings.fill(now, roomAt(now.held));
            counted = true;
        }
        return sittings;
    }

    private int acrossOf(int pupil) {
        int desk = seatIn(now.sitters, pupil) / 2;
        return sittersAt(now.sitters, desk ^ 1);
    }

    private int talkersIn(int first, int minute) {
        int hush = roomAt(now.held).hush();
        int talking = first;
        for (int m = 0; m < minute; m++) {
            talking = now.talkersAfter(talking, hush, FREE);
        }
        return talking;
    }

    private int firstStill(int first) {
        int hush = roomAt(now.held).hush();
        int talking = first;
        for (int m = 0; m <= MINUTES; m++) {
            if (talking == 0) {
                return m;
            }
            talking = now.talkersAfter(talking, hush, FREE);
        }
        return NOBODY;
    }

    private int noiseWithout(int pupil, int first, int minutes) {
        int hush = roomAt(now.held).hush();
        int talking = first & ~(1 << pupil);
        int sum = now.loudness(talking);
        for (int m = 0; m < minutes; m++) {
            talking = now.talkersAfter(talking, hush, pupil);
            sum += now.loudness(talking);
        }
        return sum;
    }

    private boolean isPair(int told) {
        return told >= 0 && now.at(told / 10) != null && now.at(told % 10) != null
            && told / 10 != told % 10;
    }

    private static int pairBits(int told) {
        return 1 << told / 10 | 1 << told % 10;
    }

    private static boolean isTape(int tape) {
        return tape >= 0 && tape < TAPES;
    }

    private boolean isPlace(int tape, int i) {
        return isTape(tape) && i >= 0 && i < sizes[tape] && i < items[tape].length;
    }

    private boolean isStretch(int tape, int from, int n) {
        return isTape(tape) && from >= 0 && n >= 0 && (long) from + n <= sizes[tape]
            && (long) from + n <= items[tape].length;
    }

    private static long asSort(int sort, long v) {
        switch (sort) {
            case BYTES: return (byte) v;
            case SHORTS: return (short) v;
            case INTS: return (int) v;
            case BOOLEANS: return v != 0 ? 1 : 0;
            default: return v;
        }
    }

    /** The bodies that ran in the latest act. */
    private static final class Trace {
        private final int[] bodies = new int[20];
        int ran;

        void clear() {
            ran = 0;
        }

        void begin(int body) {
            if (ran >= 0 && ran < bodies.length) {
                bodies[ran] = body;
            }
            ran++;
        }

        int body(int i) {
            return i >= 0 && i < ran && i < bodies.length ? bodies[i] : NONE;
        }
    }

    /** One who only learns and is disturbed; the kinds under it say what is otherwise with them. */
    private static class Pupil {
        final int number;
        final int v;
        final int talkative;
        final int knowing;
        final int tongue;

        Pupil(int number, int v, int talkative, int knowing, int tongue) {
            this.number = number;
            this.v = v;
            this.talkative = talkative;
            this.knowing = knowing;
            this.tongue = tongue;
        }

        int kind() {
            return 0;
        }

        /** WORTH by b, as if nobody sat at the other desk; the gain is LEARNS less LOUD. */
        int worthBy(Pupil b, int gain, Standing s) {
            return gain;
        }

        /** What each one at the other desk of the row takes from the worth. */
        int burden() {
            return 0;
        }

        boolean goesOn() {
            return false;
        }

        int sits(int x, Trace t) {
            t.begin(10);
            return x + number;
        }

        int talks(int x, Trace t) {
            t.begin(11);
            return sits(x, t) - v;
        }

        int tells(int x, Trace t) {
            t.begin(12);
            return talks(x, t) * 2;
        }
    }

    private static class Helping extends Pupil {
        Helping(int number, int v, int talkative, int knowing, int tongue) {
            super(number, v, talkative, knowing, tongue);
        }

        int kind() {
            return 1;
        }

        int worthBy(Pupil b, int gain, Standing s) {
            return super.worthBy(b, gain, s) + (b.knowing < knowing ? v : 0);
        }

        int talks(int x, Trace t) {
            t.begin(20);
            return super.talks(x, t) ^ 6;
        }
    }

    private static class Talker extends Pupil {
        Talker(int number, int v, int talkative, int knowing, int tongue) {
            super(number, v, talkative, knowing, tongue);
        }

        int kind() {
            return 2;
        }

        int worthBy(Pupil b, int gain, Standing s) {
            return super.worthBy(b, gain, s) - talkative;
        }

        boolean goesOn() {
            return true;
        }

        int sits(int x, Trace t) {
            t.begin(30);
            return super.sits(x * 3, t);
        }
    }

    private static class Wished extends Pupil {
        Wished(int number, int v, int talkative, int knowing, int tongue) {
            super(number, v, talkative, knowing, tongue);
        }

        int kind() {
            return 3;
        }

        int worthBy(Pupil b, int gain, Standing s) {
            return super.worthBy(b, gain, s) + (s.isNaming(b.number, number) ? v : 0);
        }

        int tells(int x, Trace t) {
            t.begin(40);
            return super.tells(x, t) + talks(1, t);
        }
    }

    private static final class Left extends Helping {
        Left(int number, int v, int talkative, int knowing, int tongue) {
            super(number, v, talkative, knowing, tongue);
        }

        int kind() {
            return 4;
        }

        int worthBy(Pupil b, int gain, Standing s) {
            int others = s.namersOf(number) - (s.isNaming(b.number, number) ? 1 : 0);
            return super.worthBy(b, gain, s) + (others == 0 ? v : 0);
        }

        int sits(int x, Trace t) {
            t.begin(50);
            return -super.sits(x, t);
        }

        int talks(int x, Trace t) {
            t.begin(51);
            return super.talks(x + 1, t);
        }
    }

    private static final class Carrier extends Talker {
        Carrier(int number, int v, int talkative, int knowing, int tongue) {
            super(number, v, talkative, knowing, tongue);
        }

        int kind() {
            return 5;
        }

        int burden() {
            return v;
        }

        int tells(int x, Trace t) {
            t.begin(60);
            return super.tells(x - number, t);
        }
    }

    private static final class Hoped extends Wished {
        Hoped(int number, int v, int talkative, int knowing, int tongue) {
            super(number, v, talkative, knowing, tongue);
        }

        int kind() {
            return 6;
        }

        int worthBy(Pupil b, int gain, Standing s) {
            return super.worthBy(b, gain, s) + (s.isNaming(number, b.number) ? v : 0);
        }

        int talks(int x, Trace t) {
            t.begin(70);
            return super.talks(x, t) + super.sits(2, t);
        }

        int sits(int x, Trace t) {
            t.begin(71);
            return super.sits(x, t) ^ v;
        }
    }

    /** All that an image keeps, and what can be told of it without a room's clauses. */
    private static final class Standing {
        private final Pupil[] pupils = new Pupil[SEATS];
        final int[] sitters = new int[SEATS];
        private final int[] slipOf = new int[SEATS];
        int size;
        private int fronts;
        long pairs;
        int held = -1;

        Standing() {
            for (int i = 0; i < SEATS; i++) {
                sitters[i] = FREE;
                slipOf[i] = FREE;
            }
        }

        void copy(Standing from) {
            for (int i = 0; i < SEATS; i++) {
                pupils[i] = from.pupils[i];
                sitters[i] = from.sitters[i];
                slipOf[i] = from.slipOf[i];
            }
            size = from.size;
            fronts = from.fronts;
            pairs = from.pairs;
            held = from.held;
        }

        /** The pupil of a number, or null: there is none. */
        Pupil at(int p) {
            return p >= 0 && p < size && p < pupils.length ? pupils[p] : null;
        }

        void add(Pupil one) {
            int seat = seatIn(sitters, FREE);
            if (size >= SEATS || seat < 0 || seat >= SEATS) {
                return;
            }
            // an undo may have left here what a pupil now forgotten had
            pupils[size] = one;
            slipOf[size] = FREE;
            sitters[seat] = size;
            size++;
        }

        boolean arePupils(int bits) {
            return bits >= 0 && bits < 1 << size;
        }

        boolean needsFront(int p) {
            return hasBit(fronts, p);
        }

        void setFront(int p, boolean is) {
            fronts = is ? fronts | 1 << p : fronts & ~(1 << p);
        }

        int whomNames(int p) {
            return p >= 0 && p < size && p < slipOf.length ? slipOf[p] : FREE;
        }

        void setSlip(int p, int other) {
            if (p >= 0 && p < slipOf.length) {
                slipOf[p] = other;
            }
        }

        boolean isNaming(int p, int other) {
            return p >= 0 && p < size && p < slipOf.length && other >= 0 && slipOf[p] == other;
        }

        int namersOf(int p) {
            int sum = 0;
            for (int q = 0; q < size; q++) {
                if (isNaming(q, p)) {
                    sum++;
                }
            }
            return sum;
        }

        int aloneBits() {
            int bits = 0;
            for (int p = 0; p < size; p++) {
                if (namersOf(p) == 0) {
                    bits |= 1 << p;
                }
            }
            return bits;
        }

        int closedBits() {
            int least = NOBODY;
            int fewest = SEATS + 1;
            for (int set = 1; set < 1 << size; set++) {
                int many = Integer.bitCount(set);
                if (many >= 2 && many < fewest && isClosed(set)) {
                    least = set;
                    fewest = many;
                }
            }
            return least;
        }

        private boolean isClosed(int set) {
            for (int p = 0; p < size; p++) {
                if (hasBit(set, p) != hasBit(set, whomNames(p))) {
                    return false;
                }
            }
            return true;
        }

        int besideOf(int p) {
            int seat = seatIn(sitters, p);
            int beside = seat ^ 1;
            return seat >= 0 && beside >= 0 && beside < SEATS ? sitters[beside] : FREE;
        }

        /** How many neighbours in a row of sitters have not been put down yet. */
        int newPairs(int[] row) {
            return Long.bitCount(pairsOf(row) & ~pairs);
        }

        int putDown() {
            int fresh = newPairs(sitters);
            pairs |= pairsOf(sitters);
            return fresh;
        }

        private static long pairsOf(int[] row) {
            long bits = 0;
            for (int seat = 0; seat + 1 < row.length; seat += 2) {
                int a = Math.min(row[seat], row[seat + 1]);
                int b = Math.max(row[seat], row[seat + 1]);
                if (a >= 0) {
                    bits |= 1L << (SEATS * a + b);
                }
            }
            return bits;
        }

        int loudness(int talking) {
            int sum = 0;
            for (int p = 0; p < size; p++) {
                if (hasBit(talking, p)) {
                    sum += talksOf(p);
                }
            }
            return sum;
        }

        private int talksOf(int p) {
            Pupil one = at(p);
            return one == null ? 0 : one.talkative;
        }

        /** Who talks a minute later, as if the one without (FREE: nobody) were not there. */
        int talkersAfter(int talking, int hush, int without) {
            int later = 0;
            for (int seat = 0; seat < SEATS; seat++) {
                int p = sitters[seat];
                if (p != FREE && p != without && talksAfter(seat, talking, hush)) {
                    later |= 1 << p;
                }
            }
            return later;
        }

        private boolean talksAfter(int seat, int talking, int hush) {
            Pupil own = seat >= 0 && seat < SEATS ? at(sitters[seat]) : null;
            if (own == null) {
                return false;
            }
            if (own.goesOn() && hasBit(talking, own.number)) {
                return true;
            }
            boolean heard = false;
            int sum = 0;
            for (int other = 0; other < SEATS; other++) {
                int q = sitters[other];
                if (other != seat && hasBit(talking, q) && isNear(seat, other)) {
                    heard = true;
                    sum += talksOf(q);
                }
            }
            return heard && sum / 2 + own.talkative > hush;
        }

        private static boolean isNear(int seat, int other) {
            boolean oneRow = seat / BACK == other / BACK;
            boolean behind = (seat & 2) == (other & 2);
            return oneRow || behind;
        }
    }

    /** The clauses of a text, and what they say of a pair. */
    private static final class Room {
        private static final int CLAUSES = 10;
        private static final int NESTED = 4;
        private static final int LEARN = 0;
        private static final int LOUD = 1;
        private static final int BAR = 2;
        private static final int HUSHING = 3;
        private static final String LETTERS = "abkjtwr";
        private static final String SIGNS = "<=>";
        // codes below 0 work on what the codes ahead left; a test is a code of 0 or more
        private static final int NOT = -1;
        private static final int AND = -2;
        private static final int OR = -3;

        private final int[] words = new int[CLAUSES];
        private final int[] amounts = new int[CLAUSES];
        private final int[] ends = new int[CLAUSES];
        private final int[] codes = new int[TEXT];
        private int clauseCount;
        private int codeCount;
        private int hushing = HUSH;
        private final byte[] source = new byte[TEXT];
        private int length;
        private int at;
        private final int[] facts = new int[7];

        int hush() {
            return hushing;
        }

        /** Reads a text of so many bytes: -1, or the place of its fault. */
        int take(byte[] bytes, int many) {
            length = Math.max(0, Math.min(many, Math.min(bytes.length, source.length)));
            System.arraycopy(bytes, 0, source, 0, length);
            at = 0;
            clauseCount = 0;
            codeCount = 0;
            hushing = HUSH;
            for (int c = 0; c < CLAUSES; c++) {
                if (!takeClause()) {
                    return at;
                }
                if (at >= length) {
                    return -1;
                }
                if (c == CLAUSES - 1 || !takes(';')) {
                    return at;
                }
            }
            return at;
        }

        // each taker that fails stays at the first byte with which no room begins
        private boolean takeClause() {
            int word = wordAhead();
            if (word < 0 || !takesAll(spelled(word))) {
                return false;
            }
            int amount = 1;
            if (word != BAR) {
                amount = takes(' ') ? takeNumber() : -1;
            }
            if (amount < 0) {
                return false;
            }
            if (word != HUSHING && !(takes(' ') && takeEither(0))) {
                return false;
            }
            keep(word, amount);
            return true;
        }

        private void keep(int word, int amount) {
            if (word == HUSHING) {
                hushing = amount;
            }
            if (clauseCount < 0 || clauseCount >= CLAUSES) {
                return;
            }
            words[clauseCount] = word;
            amounts[clauseCount] = amount;
            ends[clauseCount] = codeCount;
            clauseCount++;
        }

        private int wordAhead() {
            switch (byteAt(at)) {
                case 'b': return BAR;
                case 'h': return HUSHING;
                case 'l': return byteAt(at + 1) == 'o' ? LOUD : LEARN;
                default: return -1;
            }
        }

        private static String spelled(int word) {
            switch (word) {
                case LEARN: return "learn";
                case LOUD: return "loud";
                case BAR: return "bar";
                default: return "hush";
            }
        }

        private int byteAt(int place) {
            return place >= 0 && place < length && place < source.length ? source[place] : -1;
        }

        private boolean takes(char sign) {
            if (byteAt(at) != sign) {
                return false;
            }
            at++;
            return true;
        }

        private boolean takesAll(String signs) {
            for (int i = 0; i < signs.length(); i++) {
                if (!takes(signs.charAt(i))) {
                    return false;
                }
            }
            return true;
        }

        private int takeNumber() {
            int first = byteAt(at) - '0';
            if (!isDigit(first)) {
                return -1;
            }
            at++;
            int second = byteAt(at) - '0';
            if (!isDigit(second)) {
                return first;
            }
            at++;
            return 10 * first + second;
        }

        private int takeOneOf(String signs) {
            int sign = byteAt(at);
            int which = sign < 0 ? -1 : signs.indexOf((char) sign);
            if (which >= 0) {
                at++;
            }
            return which;
        }

        private boolean takeEither(int depth) {
            boolean good = takeEach(depth);
            for (int i = 0; i < TEXT && good && takes('|'); i++) {
                good = takeEach(depth) && puts(OR);
            }
            return good;
        }

        private boolean takeEach(int depth) {
            boolean good = takePart(depth);
            for (int i = 0; i < TEXT && good && takes('&'); i++) {
                good = takePart(depth) && puts(AND);
            }
            return good;
        }

        private boolean takePart(int depth) {
            if (depth < NESTED && takes('!')) {
                return takeNot(depth + 1);
            }
            if (depth < NESTED && takes('(')) {
                return takeEither(depth + 1) && takes(')');
            }
            int letter = takeOneOf(LETTERS);
            int sign = letter < 0 ? -1 : takeOneOf(SIGNS);
            int number = sign < 0 ? -1 : takeNumber();
            return number >= 0 && puts((letter * 3 + sign) * 100 + number);
        }

        private boolean takeNot(int depth) {
            return takePart(depth) && puts(NOT);
        }

        private boolean puts(int code) {
            if (codeCount < 0 || codeCount >= codes.length) {
                return false;
            }
            codes[codeCount] = code;
            codeCount++;
            return true;
        }

        int learns(Pupil a, Pupil b, int row, Standing s) {
            look(a, b, row, s);
            return sumOf(LEARN);
        }

        int louds(Pupil a, Pupil b, int row, Standing s) {
            look(a, b, row, s);
            return sumOf(LOUD);
        }

        boolean isBarred(Pupil a, Pupil b, int row, Standing s) {
            look(a, b, row, s);
            if (sumOf(BAR) > 0) {
                return true;
            }
            look(b, a, row, s);
            return sumOf(BAR) > 0;
        }

        int worth(Pupil a, Pupil b, int row, Standing s) {
            look(a, b, row, s);
            return a.worthBy(b, sumOf(LEARN) - sumOf(LOUD), s);
        }

        // in the order of LETTERS
        private void look(Pupil a, Pupil b, int row, Standing s) {
            facts[0] = a.number;
            facts[1] = b.number;
            facts[2] = Math.max(0, b.knowing - a.knowing);
            facts[3] = a.talkative + b.talkative;
            facts[4] = a.tongue == b.tongue ? 1 : 0;
            facts[5] = (s.isNaming(a.number, b.number) ? 1 : 0)
                + (s.isNaming(b.number, a.number) ? 1 : 0);
            facts[6] = row;
        }

        private int sumOf(int word) {
            int sum = 0;
            int from = 0;
            for (int c = 0; c < clauseCount && c < CLAUSES; c++) {
                if (words[c] == word && holds(from, ends[c])) {
                    sum += amounts[c];
                }
                from = ends[c];
            }
            return sum;
        }

        // the bits of an int are stack enough: a level of brackets leaves two open at most
        private boolean holds(int from, int end) {
            int stack = 0;
            for (int c = Math.max(0, from); c < end && c < codes.length; c++) {
                int code = codes[c];
                if (code >= 0) {
                    stack = stack << 1 | (isSo(code) ? 1 : 0);
                } else if (code == NOT) {
                    stack ^= 1;
                } else if (code == AND) {
                    stack = stack >> 1 & (stack | ~1);
                } else {
                    stack = stack >> 1 | stack & 1;
                }
            }
            return (stack & 1) != 0;
        }

        private boolean isSo(int code) {
            int letter = code / 300;
            if (letter < 0 || letter >= facts.length) {
                return false;
            }
            int number = code % 100;
            switch (code / 100 % 3) {
                case 0: return facts[letter] < number;
                case 1: return facts[letter] == number;
                default: return facts[letter] > number;
            }
        }
    }

    /** What each pair is worth and whether it is barred, so each sitting; the best of sittings. */
    private static final class Sittings {
        private final int[] worths = new int[2 * SEATS * SEATS];
        private final boolean[] bars = new boolean[2 * SEATS * SEATS];
        private final int[] burdens = new int[SEATS];
        private final int[] trial = new int[SEATS];
        final int[] found = new int[SEATS];
        private boolean any;
        int foundBreaks;
        int foundWorth;

        void fill(Standing s, Room room) {
            for (int a = 0; a < s.size; a++) {
                for (int b = 0; b < s.size; b++) {
                    for (int row = 0; row < 2; row++) {
                        Pupil one = s.at(a);
                        Pupil by = s.at(b);
                        int cell = cellOf(a, b, row);
                        if (one != null && by != null && cell >= 0) {
                            worths[cell] = room.worth(one, by, row, s);
                            bars[cell] = room.isBarred(one, by, row, s);
                        }
                    }
                }
            }
            for (int p = 0; p < SEATS; p++) {
                Pupil one = s.at(p);
                burdens[p] = one == null ? 0 : one.burden();
            }
        }

        // -1 for a free seat and for one by themselves
        private static int cellOf(int a, int b, int row) {
            if (a < 0 || a >= SEATS || b < 0 || b >= SEATS || a == b || row < 0 || row > 1) {
                return -1;
            }
            return (row * SEATS + a) * SEATS + b;
        }

        private int worthAt(int a, int b, int row) {
            int cell = cellOf(a, b, row);
            return cell < 0 ? 0 : worths[cell];
        }

        private boolean isBarredAt(int a, int b, int row) {
            int cell = cellOf(a, b, row);
            return cell >= 0 && bars[cell];
        }

        private int burdenOf(int p) {
            return p >= 0 && p < burdens.length ? burdens[p] : 0;
        }

        int worthOf(int[] sitters) {
            int sum = 0;
            for (int seat = 0; seat + 1 < sitters.length; seat += 2) {
                int a = sitters[seat];
                int b = sitters[seat + 1];
                if (a >= 0 && b >= 0) {
                    int row = seat / BACK;
                    int across = sittersAt(sitters, seat / 2 ^ 1);
                    sum += worthAt(a, b, row) + worthAt(b, a, row);
                    sum -= across * (burdenOf(a) + burdenOf(b));
                }
            }
            return sum;
        }

        int breaksOf(int[] sitters, Standing s, int aim) {
            int sum = 0;
            for (int seat = 0; seat + 1 < sitters.length && aim != WITHOUT_BARS; seat += 2) {
                if (isBarredAt(sitters[seat], sitters[seat + 1], seat / BACK)) {
                    sum++;
                }
            }
            for (int seat = BACK; seat < sitters.length && aim != WITHOUT_FRONTS; seat++) {
                if (s.needsFront(sitters[seat])) {
                    sum++;
                }
            }
            return sum;
        }

        long worthOfAllPairs(int size) {
            long sum = 0;
            for (int a = 0; a < size; a++) {
                for (int b = 0; b < size; b++) {
                    sum += worthAt(a, b, 0) + worthAt(a, b, 1);
                }
            }
            return sum;
        }

        /** The seats of the best swap, 10 times the one and the other, or NOBODY. */
        int bestExchange(Standing s) {
            begin(s.sitters);
            weigh(s, ALL_RULES);
            int seats = NOBODY;
            for (int a = 0; a < SEATS; a++) {
                for (int b = a + 1; b < SEATS; b++) {
                    if (trial[a] == FREE && trial[b] == FREE) {
                        continue;
                    }
                    exchange(trial, a, b);
                    if (weigh(s, ALL_RULES)) {
                        seats = 10 * a + b;
                    }
                    exchange(trial, a, b);
                }
            }
            return seats;
        }

        /** Leaves the best of all sittings, the first as a row of seats by pupils, as found. */
        void search(Standing s, int aim) {
            begin(null);
            if (s.size <= NEXT_PUPILS) {
                place(this, s, aim, 0);
            }
        }

        private void begin(int[] sitters) {
            any = false;
            foundBreaks = 0;
            foundWorth = 0;
            for (int seat = 0; seat < SEATS; seat++) {
                trial[seat] = sitters != null && seat < sitters.length ? sitters[seat] : FREE;
            }
        }

        // pupil by pupil, each from the least seat on: so rows come in their order, the first counts
        private static void place(Sittings t, Standing s, int aim, int p) {
            if (p >= s.size || p >= SEATS) {
                t.weigh(s, aim);
                return;
            }
            for (int seat = 0; seat < SEATS; seat++) {
                if (t.isUnlike(seat)) {
                    t.trial[seat] = p;
                    place(t, s, aim, p + 1);
                    t.trial[seat] = FREE;
                }
            }
        }

        // the seats of a desk are alike, and the desks of a row: what goes to the later of two that
        // are both free is worth what an earlier row is, and need not be tried
        private boolean isUnlike(int seat) {
            if (seat < 0 || seat >= SEATS || trial[seat] != FREE) {
                return false;
            }
            if ((seat & 1) == 1 && trial[seat - 1] == FREE) {
                return false;
            }
            return (seat & 2) == 0 || sittersAt(trial, seat / 2 - 1) > 0;
        }

        /** Whether the trial is better than all ahead of it; it is kept then. */
        private boolean weigh(Standing s, int aim) {
            int breaks = aim == NEW_PAIRS ? 0 : breaksOf(trial, s, aim);
            int worth = aim == NEW_PAIRS ? s.newPairs(trial) : worthOf(trial);
            if (any && (breaks > foundBreaks || breaks == foundBreaks && worth <= foundWorth)) {
                return false;
            }
            any = true;
            foundBreaks = breaks;
            foundWorth = worth;
            System.arraycopy(trial, 0, found, 0, SEATS);
            return true;
        }
    }
}
