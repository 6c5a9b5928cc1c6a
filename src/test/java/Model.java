import java.util.ArrayList;
import java.util.HashSet;
import java.util.List;
import java.util.Set;
import java.util.regex.Matcher;
import java.util.regex.Pattern;

/**
 * The document once more, in another way: every sitting is tried, texts are told by a regular
 * expression, the bodies of acts stand in a table. Slow, and only here to be compared with.
 */
final class Model {
    private static final long NO = Long.MIN_VALUE;
    private static final Pattern ROOM = Pattern.compile(roomPattern());
    private static final int[] ABOVE = {-1, 0, 0, 0, 1, 2, 3};
    // [kind][act]: the number of the body that stands there, 0: none
    private static final int[][] BODIES = {{10, 11, 12}, {0, 20, 0}, {30, 0, 0}, {0, 0, 40}, {50, 51, 0},
        {0, 0, 60}, {71, 70, 0}};

    private static final class One implements Cloneable {
        int kind, v, talks, knows, tongue, slip = -1, seat;
        boolean front;

        One copy() {
            try {
                return (One) clone();
            } catch (CloneNotSupportedException e) {
                throw new IllegalStateException(e);
            }
        }
    }

    private List<One> all = new ArrayList<>();
    private Set<Integer> pairs = new HashSet<>();
    private String held = "";
    private int heldNumber = -1;
    private final List<String> rooms = new ArrayList<>();
    private StringBuilder text = new StringBuilder();
    private List<One> imageAll = null;
    private Set<Integer> imagePairs;
    private int imageHeld;
    private final List<Integer> ran = new ArrayList<>();
    private final Object[] tapes = new Object[6];

    // ---- pupils

    int pupil(int kind, int v, int talks, int knows, int tongue) {
        if (kind < 0 || kind > 6) {
            return -1;
        }
        for (int n : new int[] {v, talks, knows}) {
            if (n < 0 || n > 9) {
                return -2;
            }
        }
        if (tongue < 0 || tongue > 2) {
            return -2;
        }
        if (all.size() == 8) {
            return -4;
        }
        One one = new One();
        one.kind = kind;
        one.v = v;
        one.talks = talks;
        one.knows = knows;
        one.tongue = tongue;
        while (at(one.seat) >= 0) {
            one.seat++;
        }
        all.add(one);
        return all.size() - 1;
    }

    private int at(int seat) {
        for (int p = 0; p < all.size(); p++) {
            if (all.get(p).seat == seat) {
                return p;
            }
        }
        return -1;
    }

    private boolean is(int p) {
        return p >= 0 && p < all.size();
    }

    int of(int p, int what) {
        if (!is(p) || what < 0 || what > 8) {
            return -1;
        }
        One one = all.get(p);
        int beside = at(one.seat % 2 == 0 ? one.seat + 1 : one.seat - 1);
        return new int[] {one.kind, one.v, one.talks, one.knows, one.tongue, one.front ? 1 : 0,
            one.slip < 0 ? -5 : one.slip, one.seat, beside < 0 ? -5 : beside}[what];
    }

    int front(int p, boolean is) {
        if (!is(p)) {
            return -1;
        }
        boolean was = all.get(p).front;
        all.get(p).front = is;
        return was ? 1 : 0;
    }

    int name(int p, int other) {
        if (!is(p) || other != -1 && !is(other)) {
            return -1;
        }
        if (p == other) {
            return -2;
        }
        int was = all.get(p).slip;
        all.get(p).slip = other;
        return was < 0 ? -5 : was;
    }

    int sit(int p, int seat) {
        if (!is(p) || seat < 0 || seat > 7) {
            return -1;
        }
        int was = all.get(p).seat;
        int there = at(seat);
        if (there >= 0) {
            all.get(there).seat = was;
        }
        all.get(p).seat = seat;
        return was;
    }

    // ---- rooms

    int feed(int sign) {
        if (sign < 0 || sign > 127) {
            return -2;
        }
        if (text.length() == 100) {
            return -4;
        }
        text.append((char) sign);
        return text.length();
    }

    private static String roomPattern() {
        String test = "[abkjtwr][<=>][0-9][0-9]?";
        String factor = test;
        String expression = expression(factor);
        for (int depth = 3; depth >= 0; depth--) {
            factor = "(?:" + test + "|!" + factor + "|\\(" + expression + "\\))";
            expression = expression(factor);
        }
        String clause = "(?:(?:learn|loud) [0-9][0-9]? " + expression + "|bar " + expression + "|hush [0-9][0-9]?)";
        return clause + "(?:;" + clause + "){0,9}";
    }

    private static String expression(String factor) {
        String term = factor + "(?:&" + factor + ")*";
        return "(?:" + term + "(?:\\|" + term + ")*)";
    }

    int room() {
        if (rooms.size() == 6) {
            return -4;
        }
        String told = text.toString();
        text = new StringBuilder();
        Matcher whole = ROOM.matcher(told);
        if (whole.matches()) {
            rooms.add(told);
            held = told;
            heldNumber = rooms.size() - 1;
            return heldNumber;
        }
        for (int end = 1; end <= told.length(); end++) {
            Matcher begun = ROOM.matcher(told.substring(0, end));
            if (!begun.matches() && !begun.hitEnd()) {
                return -10 - (end - 1);
            }
        }
        return -10 - told.length();
    }

    private int place;

    private boolean holds(String e, int a, int b, int row) {
        place = 0;
        return either(e, a, b, row);
    }

    private boolean sign(String e, char sign) {
        if (place < e.length() && e.charAt(place) == sign) {
            place++;
            return true;
        }
        return false;
    }

    private boolean either(String e, int a, int b, int row) {
        boolean first = each(e, a, b, row);
        return sign(e, '|') ? either(e, a, b, row) | first : first;
    }

    private boolean each(String e, int a, int b, int row) {
        boolean first = part(e, a, b, row);
        return sign(e, '&') ? each(e, a, b, row) & first : first;
    }

    private boolean part(String e, int a, int b, int row) {
        if (sign(e, '!')) {
            return !part(e, a, b, row);
        }
        if (sign(e, '(')) {
            boolean is = either(e, a, b, row);
            sign(e, ')');
            return is;
        }
        char letter = e.charAt(place);
        char compared = e.charAt(place + 1);
        int end = place + 2;
        while (end < e.length() && Character.isDigit(e.charAt(end))) {
            end++;
        }
        int number = Integer.parseInt(e.substring(place + 2, end));
        place = end;
        int fact = fact(letter, a, b, row);
        return compared == '<' ? fact < number : compared == '>' ? fact > number : fact == number;
    }

    private int fact(char letter, int a, int b, int row) {
        One one = all.get(a);
        One by = all.get(b);
        switch (letter) {
            case 'a': return a;
            case 'b': return b;
            case 'k': return by.knows > one.knows ? by.knows - one.knows : 0;
            case 'j': return one.talks + by.talks;
            case 't': return one.tongue == by.tongue ? 1 : 0;
            case 'w': return (one.slip == b ? 1 : 0) + (by.slip == a ? 1 : 0);
            default: return row;
        }
    }

    private int told(String word, int a, int b, int row) {
        int sum = 0;
        for (String clause : held.split(";")) {
            String[] parts = clause.split(" ");
            if (parts[0].equals(word) && holds(parts[parts.length - 1], a, b, row)) {
                sum += parts.length == 3 ? Integer.parseInt(parts[1]) : 1;
            }
        }
        return sum;
    }

    private int hush() {
        int hush = 5;
        for (String clause : held.split(";")) {
            if (clause.startsWith("hush")) {
                hush = Integer.parseInt(clause.substring(5));
            }
        }
        return hush;
    }

    private boolean barred(int a, int b, int row) {
        return told("bar", a, b, row) > 0 || told("bar", b, a, row) > 0;
    }

    private boolean under(int kind, int of) {
        for (int k = kind; k >= 0; k = ABOVE[k]) {
            if (k == of) {
                return true;
            }
        }
        return false;
    }

    /** Without what CARRIERS lose. */
    private int worth(int a, int b, int row) {
        One one = all.get(a);
        One by = all.get(b);
        int worth = told("learn", a, b, row) - told("loud", a, b, row);
        int others = 0;
        for (int p = 0; p < all.size(); p++) {
            others += p != b && all.get(p).slip == a ? 1 : 0;
        }
        worth += under(one.kind, 1) && by.knows < one.knows ? one.v : 0;
        worth -= under(one.kind, 2) ? one.talks : 0;
        worth += under(one.kind, 3) && by.slip == a ? one.v : 0;
        worth += one.kind == 4 && others == 0 ? one.v : 0;
        worth += one.kind == 6 && one.slip == b ? one.v : 0;
        return worth;
    }

    int pair(int a, int b, int row, int what) {
        if (!is(a) || !is(b) || row < 0 || row > 1 || what < 0 || what > 3) {
            return -100001;
        }
        if (a == b) {
            return -100002;
        }
        switch (what) {
            case 0: return told("learn", a, b, row);
            case 1: return told("loud", a, b, row);
            case 2: return barred(a, b, row) ? 1 : 0;
            default: return worth(a, b, row) - loss(a, seats());
        }
    }

    private int loss(int a, int[] seats) {
        int sum = 0;
        for (int p = 0; p < seats.length; p++) {
            boolean oneRow = seats[p] / 4 == seats[a] / 4;
            boolean oneDesk = seats[p] / 2 == seats[a] / 2;
            sum += oneRow && !oneDesk ? all.get(a).v : 0;
        }
        return all.get(a).kind == 5 ? sum : 0;
    }

    // ---- sittings: rows of seats by pupils

    private int[] seats() {
        int[] seats = new int[all.size()];
        for (int p = 0; p < seats.length; p++) {
            seats[p] = all.get(p).seat;
        }
        return seats;
    }

    private List<int[]> everySitting() {
        List<int[]> rows = new ArrayList<>();
        sittings(rows, new int[all.size()], 0);
        return rows;
    }

    private void sittings(List<int[]> rows, int[] seats, int p) {
        if (p == seats.length) {
            rows.add(seats.clone());
            return;
        }
        for (int seat = 0; seat < 8; seat++) {
            boolean free = true;
            for (int q = 0; q < p; q++) {
                free &= seats[q] != seat;
            }
            if (free) {
                seats[p] = seat;
                sittings(rows, seats, p + 1);
            }
        }
    }

    private int[][][] worths;
    private boolean[][][] bars;

    private void count() {
        int n = all.size();
        worths = new int[2][n][n];
        bars = new boolean[2][n][n];
        for (int a = 0; a < n; a++) {
            for (int b = 0; b < n; b++) {
                for (int row = 0; row < 2 && a != b; row++) {
                    worths[row][a][b] = worth(a, b, row);
                    bars[row][a][b] = barred(a, b, row);
                }
            }
        }
    }

    private int worthOf(int[] seats, boolean carriers) {
        int sum = 0;
        for (int a = 0; a < seats.length; a++) {
            for (int b = 0; b < seats.length; b++) {
                if (a != b && seats[a] / 2 == seats[b] / 2) {
                    sum += worths[seats[a] / 4][a][b] - (carriers ? loss(a, seats) : 0);
                }
            }
        }
        return sum;
    }

    private int barsOf(int[] seats) {
        int sum = 0;
        for (int a = 0; a < seats.length; a++) {
            for (int b = 0; b < a; b++) {
                sum += seats[a] / 2 == seats[b] / 2 && bars[seats[a] / 4][a][b] ? 1 : 0;
            }
        }
        return sum;
    }

    private int frontsOf(int[] seats) {
        int sum = 0;
        for (int a = 0; a < seats.length; a++) {
            sum += all.get(a).front && seats[a] > 3 ? 1 : 0;
        }
        return sum;
    }

    int sitting(int what) {
        count();
        switch (what) {
            case 0: return worthOf(seats(), true);
            case 1: return barsOf(seats()) + frontsOf(seats());
            case 2: return hush();
            default: return -100001;
        }
    }

    int swap() {
        count();
        int[] now = seats();
        int best = -5;
        int breaks = barsOf(now) + frontsOf(now);
        int worth = worthOf(now, true);
        for (int a = 0; a < 8; a++) {
            for (int b = a + 1; b < 8; b++) {
                int[] then = now.clone();
                for (int p = 0; p < now.length; p++) {
                    then[p] = now[p] == a ? b : now[p] == b ? a : now[p];
                }
                int thenBreaks = barsOf(then) + frontsOf(then);
                int thenWorth = worthOf(then, true);
                if (thenBreaks < breaks || thenBreaks == breaks && thenWorth > worth) {
                    best = 10 * a + b;
                    breaks = thenBreaks;
                    worth = thenWorth;
                }
            }
        }
        return best;
    }

    private int[] bestOfAll(boolean withBars, boolean withFronts) {
        count();
        int[] best = null;
        int fewest = 0;
        int most = 0;
        for (int[] seats : everySitting()) {
            int breaks = (withBars ? barsOf(seats) : 0) + (withFronts ? frontsOf(seats) : 0);
            int worth = worthOf(seats, true);
            if (best == null || breaks < fewest || breaks == fewest && worth > most) {
                best = seats;
                fewest = breaks;
                most = worth;
            }
        }
        return best;
    }

    int best(int k) {
        if (k < -2 || k >= all.size()) {
            return -100001;
        }
        if (all.size() > 5) {
            return -9;
        }
        int[] seats = bestOfAll(true, true);
        return k == -1 ? worthOf(seats, true) : k == -2 ? barsOf(seats) + frontsOf(seats) : seats[k];
    }

    int cost(int rule) {
        if (rule < 0 || rule > 1) {
            return -1;
        }
        if (all.size() > 5) {
            return -9;
        }
        return worthOf(bestOfAll(rule != 0, rule != 1), true) - worthOf(bestOfAll(true, true), true);
    }

    // ---- talk

    private boolean bad(int first, int minute, int most) {
        return first < 0 || first >= 1 << all.size() || minute < 0 || minute > most;
    }

    private int after(int talking, int without) {
        int later = 0;
        for (int p = 0; p < all.size(); p++) {
            int sum = 0;
            int many = 0;
            for (int q = 0; q < all.size(); q++) {
                int one = all.get(p).seat;
                int other = all.get(q).seat;
                boolean near = one / 4 == other / 4 || Math.abs(one / 2 - other / 2) == 2;
                if (p != q && near && (talking >> q & 1) == 1) {
                    many++;
                    sum += all.get(q).talks;
                }
            }
            boolean talks = many > 0 && sum / 2 + all.get(p).talks > hush();
            talks |= under(all.get(p).kind, 2) && (talking >> p & 1) == 1;
            later |= talks && p != without ? 1 << p : 0;
        }
        return later;
    }

    private int noiseOf(int talking) {
        int sum = 0;
        for (int p = 0; p < all.size(); p++) {
            sum += (talking >> p & 1) * all.get(p).talks;
        }
        return sum;
    }

    int talk(int first, int minute) {
        if (bad(first, minute, 60)) {
            return -2;
        }
        return minute == 0 ? first : after(talk(first, minute - 1), -1);
    }

    int noise(int first, int minute, int what) {
        if (what < 0 || what > 1) {
            return -1;
        }
        if (bad(first, minute, 60)) {
            return -2;
        }
        if (what == 0) {
            return noiseOf(talk(first, minute));
        }
        int talking = first;
        for (int m = 0; m <= 60; m++, talking = after(talking, -1)) {
            if (talking == 0) {
                return m;
            }
        }
        return -5;
    }

    int carries(int first, int n) {
        if (bad(first, n, 30)) {
            return -2;
        }
        if (all.isEmpty()) {
            return -5;
        }
        int best = -1;
        int least = Integer.MAX_VALUE;
        for (int p = 0; p < all.size(); p++) {
            int talking = first & ~(1 << p);
            int sum = noiseOf(talking);
            for (int m = 1; m <= n; m++) {
                talking = after(talking, p);
                sum += noiseOf(talking);
            }
            if (sum < least) {
                best = p;
                least = sum;
            }
        }
        return best;
    }

    // ---- slips, months, lots

    int named(int p) {
        return is(p) ? (int) all.stream().filter(one -> one.slip == p).count() : -1;
    }

    int slips(int what) {
        if (what == 0) {
            int bits = 0;
            for (int p = 0; p < all.size(); p++) {
                bits |= named(p) == 0 ? 1 << p : 0;
            }
            return bits;
        }
        if (what != 1) {
            return -1;
        }
        for (int many = 2; many <= all.size(); many++) {
            for (int set = 0; set < 1 << all.size(); set++) {
                if (Integer.bitCount(set) == many && closed(set)) {
                    return set;
                }
            }
        }
        return -5;
    }

    private boolean closed(int set) {
        for (int p = 0; p < all.size(); p++) {
            int slip = all.get(p).slip;
            boolean within = (set >> p & 1) == 1;
            boolean namesWithin = slip >= 0 && (set >> slip & 1) == 1;
            if (within && !namesWithin || !within && namesWithin) {
                return false;
            }
        }
        return true;
    }

    private Set<Integer> neighbours(int[] seats) {
        Set<Integer> told = new HashSet<>();
        for (int a = 0; a < seats.length; a++) {
            for (int b = a + 1; b < seats.length; b++) {
                if (seats[a] / 2 == seats[b] / 2) {
                    told.add(10 * a + b);
                }
            }
        }
        return told;
    }

    private int fresh(int[] seats) {
        Set<Integer> told = neighbours(seats);
        told.removeAll(pairs);
        return told.size();
    }

    int month() {
        int fresh = fresh(seats());
        pairs.addAll(neighbours(seats()));
        return fresh;
    }

    int lacks(int what) {
        int n = 0;
        for (int a = 0; a < all.size(); a++) {
            for (int b = a + 1; b < all.size(); b++) {
                n += pairs.contains(10 * a + b) ? 0 : 1;
            }
        }
        return what == 0 ? n : what == 1 ? n == 0 ? 1 : 0 : -1;
    }

    int next(int k) {
        if (k < -1 || k >= all.size()) {
            return -100001;
        }
        if (all.size() > 6) {
            return -9;
        }
        int[] best = null;
        int most = -1;
        for (int[] seats : everySitting()) {
            int fresh = fresh(seats);
            if (fresh > most) {
                best = seats;
                most = fresh;
            }
        }
        return k == -1 ? most : best[k];
    }

    private static long part(long above, long below, int part) {
        long a = Math.abs(above);
        long b = below;
        while (b != 0) {
            long rest = a % b;
            a = b;
            b = rest;
        }
        return part == 0 ? above / a : below / a;
    }

    long mean(int part) {
        if (part < 0 || part > 1) {
            return NO;
        }
        count();
        long sum = 0;
        List<int[]> rows = everySitting();
        for (int[] seats : rows) {
            sum += worthOf(seats, false);
        }
        return part(sum, rows.size(), part);
    }

    long both(int one, int other, int part) {
        if (part < 0 || part > 1) {
            return NO;
        }
        for (int told : new int[] {one, other}) {
            if (told < 0 || !is(told / 10) || !is(told % 10) || told / 10 == told % 10) {
                return NO;
            }
        }
        long sum = 0;
        List<int[]> rows = everySitting();
        for (int[] seats : rows) {
            boolean first = seats[one / 10] / 2 == seats[one % 10] / 2;
            boolean second = seats[other / 10] / 2 == seats[other % 10] / 2;
            sum += first && second ? 1 : 0;
        }
        return part(sum, rows.size(), part);
    }

    // ---- judging, the image, acts

    int judge(int tape, int i) {
        if (tape < 0 || tape > 5) {
            return -1;
        }
        if (tapes[tape] != null && !(tapes[tape] instanceof short[])) {
            return -12;
        }
        short[] row = (short[]) tapes[tape];
        for (int p = 0; p < all.size(); p++) {
            long at = (long) i + p;
            if (row == null || i < 0 || at >= row.length) {
                return 100 + p;
            }
            if (row[(int) at] != all.get(p).seat) {
                return p;
            }
        }
        return -5;
    }

    private static List<One> copied(List<One> from) {
        List<One> to = new ArrayList<>();
        from.forEach(one -> to.add(one.copy()));
        return to;
    }

    int image() {
        imageAll = copied(all);
        imagePairs = new HashSet<>(pairs);
        imageHeld = heldNumber;
        return all.size();
    }

    int undo() {
        if (imageAll == null) {
            return -3;
        }
        all = copied(imageAll);
        pairs = new HashSet<>(imagePairs);
        heldNumber = imageHeld;
        held = heldNumber < 0 ? "" : rooms.get(heldNumber);
        return all.size();
    }

    int act(int p, int act, int x) {
        ran.clear();
        return is(p) && act >= 0 && act <= 2 ? run(p, all.get(p).kind, act, x) : 0;
    }

    /** The body of an act from a kind on. */
    private int run(int p, int from, int act, int x) {
        int kind = from;
        while (BODIES[kind][act] == 0) {
            kind = ABOVE[kind];
        }
        int own = all.get(p).kind;
        int above = ABOVE[kind];
        int v = all.get(p).v;
        int body = BODIES[kind][act];
        ran.add(body);
        switch (body) {
            case 10: return x + p;
            case 11: return run(p, own, 0, x) - v;
            case 12: return run(p, own, 1, x) * 2;
            case 20: return run(p, above, 1, x) ^ 6;
            case 30: return run(p, above, 0, x * 3);
            case 40: {
                int told = run(p, above, 2, x);
                return told + run(p, own, 1, 1);
            }
            case 50: return -run(p, above, 0, x);
            case 51: return run(p, above, 1, x + 1);
            case 60: return run(p, above, 2, x - p);
            case 70: {
                int told = run(p, above, 1, x);
                return told + run(p, above, 0, 2);
            }
            default: return run(p, above, 0, x) ^ v;
        }
    }

    int trace(int i) {
        return i < 0 || i >= 20 || i >= ran.size() ? -1 : ran.get(i);
    }

    int taken(int p, int k) {
        return k < 0 || k > 6 ? -2 : !is(p) ? -11 : under(all.get(p).kind, k) ? all.get(p).kind : -12;
    }

    int count(int what) {
        return what < 0 || what > 4 ? -2
            : new int[] {all.size(), rooms.size(), pairs.size(), text.length(), ran.size()}[what];
    }

    // ---- tapes: rows of the host

    int tape(int tape, int sort, int n) {
        if (tape < 0 || tape > 5) {
            return -1;
        }
        if (sort < -1 || sort > 4 || sort >= 0 && n > 60) {
            return -2;
        }
        if (sort >= 0 && n < 0) {
            return -14;
        }
        switch (sort) {
            case 0: tapes[tape] = new byte[n]; break;
            case 1: tapes[tape] = new short[n]; break;
            case 2: tapes[tape] = new int[n]; break;
            case 3: tapes[tape] = new long[n]; break;
            case 4: tapes[tape] = new boolean[n]; break;
            default: tapes[tape] = null;
        }
        return 1;
    }

    int item(int tape, int i, long v) {
        if (tape < 0 || tape > 5) {
            return -1;
        }
        Object row = tapes[tape];
        if (row == null) {
            return -11;
        }
        if (i < 0 || i >= java.lang.reflect.Array.getLength(row)) {
            return -13;
        }
        if (row instanceof byte[]) {
            ((byte[]) row)[i] = (byte) v;
        } else if (row instanceof short[]) {
            ((short[]) row)[i] = (short) v;
        } else if (row instanceof int[]) {
            ((int[]) row)[i] = (int) v;
        } else if (row instanceof long[]) {
            ((long[]) row)[i] = v;
        } else {
            ((boolean[]) row)[i] = v != 0;
        }
        return 1;
    }

    long read(int tape, int i) {
        if (tape < 0 || tape > 5 || tapes[tape] == null || i < 0
            || i >= java.lang.reflect.Array.getLength(tapes[tape])) {
            return NO;
        }
        if (tapes[tape] instanceof boolean[]) {
            return ((boolean[]) tapes[tape])[i] ? 1 : 0;
        }
        return java.lang.reflect.Array.getLong(tapes[tape], i);
    }

    int shift(int tape, int i, int other, int j, int n) {
        if (tape < 0 || tape > 5 || other < 0 || other > 5) {
            return -1;
        }
        try {
            System.arraycopy(tapes[tape], i, tapes[other], j, n);
            return n;
        } catch (NullPointerException e) {
            return -11;
        } catch (ArrayStoreException e) {
            return -12;
        } catch (IndexOutOfBoundsException e) {
            return -13;
        }
    }
}
