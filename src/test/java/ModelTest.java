/** Long runs of calls, each answered by the class and by the Model alike. */
public final class ModelTest {
    private static final int RUNS = 600;
    private static final int CLASSES = 400;
    // behind so many calls what an object answers is free
    private static final int CALLS = 512;
    private static final String[] TEXTS = {"learn 4 k>2;learn 7 t=1;loud 3 j>9;bar a=1&b=2;hush 3",
        "bar r=0&j>12;learn 12 w>0;loud 2 r=1|t=0;hush 8", "learn 9 !(a<2|b>3)&r=1;bar (t=0);bar w=2",
        "hush 0", "hush 1;bar k>4|k=0&j<7;loud 20 ((a=0|b=0)&!r=0)", "learn 1 !!!!a<5;learn 3 b>2"};
    private static final String SIGNS = "learnloudbarhush   012345678999;;|&!()abkjtwr<=><=>";

    private static long seed;
    private static WhoSitsBy x;
    private static Model y;
    private static StringBuilder calls;
    private static int called;
    // a run asks what tries every sitting this often
    private static int dear;

    public static void main(String[] args) {
        int runs = args.length > 0 ? Integer.parseInt(args[0]) : RUNS;
        for (int run = 0; run < runs; run++) {
            begin(1000003L * run + 17);
            int most = 1 + some(8);
            for (int p = 0; p < most && run % 3 != 0; p++) {
                pupil();
            }
            while (called < CALLS) {
                call(most);
            }
        }
        for (int run = 0; run < CLASSES; run++) {
            begin(7000003L * run + 5);
            fullClass();
        }
        Due.end("ModelTest");
    }

    private static void begin(long seeded) {
        seed = seeded;
        x = new WhoSitsBy();
        y = new Model();
        calls = new StringBuilder();
        called = 0;
        dear = 25;
    }

    /** A class with a room, slips, fronts and seats, of which all that is dear is asked. */
    private static void fullClass() {
        int n = 1 + some(6);
        for (int p = 0; p < n; p++) {
            int k = some(7), v = some(10), t = some(10), m = some(10), g = some(3);
            same(told("pupil", k, v, t, m, g), x.pupil(k, v, t, m, g), y.pupil(k, v, t, m, g));
        }
        text();
        text();
        for (int p = 0; p < n; p++) {
            int other = some(n + 1) - 1;
            int seat = some(8);
            boolean is = some(3) == 0;
            same(told("name", p, other), x.name(p, other), y.name(p, other));
            same(told("front", p, is), x.front(p, is), y.front(p, is));
            same(told("sit", p, seat), x.sit(p, seat), y.sit(p, seat));
            if (some(2) == 0) {
                same("month()", x.month(), y.month());
            }
        }
        same("swap()", x.swap(), y.swap());
        for (int rule = 0; rule < 2; rule++) {
            same(told("sitting", rule), x.sitting(rule), y.sitting(rule));
            same(told("cost", rule), x.cost(rule), y.cost(rule));
            same(told("mean", rule), x.mean(rule), y.mean(rule));
        }
        for (int k = -2; k < n; k++) {
            same(told("best", k), x.best(k), y.best(k));
            same(told("next", k), x.next(k), y.next(k));
        }
        int first = some(1 << n);
        for (int minute = 0; minute < 6; minute++) {
            same(told("talk", first, minute), x.talk(first, minute), y.talk(first, minute));
            same(told("carries", first, minute), x.carries(first, minute), y.carries(first, minute));
        }
        for (int row = 0; row < 2; row++) {
            for (int what = 0; what < 4; what++) {
                int a = some(n), b = some(n);
                same(told("pair", a, b, row, what), x.pair(a, b, row, what), y.pair(a, b, row, what));
                int one = 10 * a + b, other = 10 * some(n) + some(n);
                same(told("both", one, other, row), x.both(one, other, row), y.both(one, other, row));
            }
        }
    }

    private static int some(int below) {
        seed = seed * 6364136223846793005L + 1442695040888963407L;
        return (int) ((seed >>> 33) % below);
    }

    private static void same(String call, long got, long want) {
        calls.append(call).append("; ");
        called++;
        if (called > CALLS) {
            return;
        }
        if (got != want) {
            System.out.println(calls);
        }
        Due.due(call, got, want);
    }

    private static String told(String name, Object... arguments) {
        StringBuilder s = new StringBuilder(name).append('(');
        for (int i = 0; i < arguments.length; i++) {
            s.append(i == 0 ? "" : ", ").append(arguments[i]);
        }
        return s.append(')').toString();
    }

    private static int wild(int usual) {
        int which = some(60);
        return which == 0 ? Integer.MIN_VALUE : which == 1 ? Integer.MAX_VALUE : which == 2 ? -1 : some(usual);
    }

    private static void pupil() {
        int k = wild(7), v = wild(10), t = wild(10), n = wild(10), g = wild(3);
        same(told("pupil", k, v, t, n, g), x.pupil(k, v, t, n, g), y.pupil(k, v, t, n, g));
    }

    private static void text() {
        String text = TEXTS[some(TEXTS.length)];
        if (some(4) == 0) {
            text = expressions();
        }
        if (some(3) == 0) {
            int at = some(text.length() + 1);
            String sign = String.valueOf(SIGNS.charAt(some(SIGNS.length())));
            int cut = Math.min(text.length(), at + some(2));
            text = text.substring(0, at) + (some(3) == 0 ? "" : sign) + text.substring(cut);
        }
        for (int i = 0; i < text.length(); i++) {
            same(told("feed", (int) text.charAt(i)), x.feed(text.charAt(i)), y.feed(text.charAt(i)));
        }
        if (some(9) != 0) {
            same("room()", x.room(), y.room());
        }
    }

    private static String expressions() {
        StringBuilder s = new StringBuilder();
        int clauses = 1 + some(4);
        for (int c = 0; c < clauses; c++) {
            s.append(c == 0 ? "" : ";");
            switch (some(3)) {
                case 0: s.append("learn ").append(some(100)).append(' '); break;
                case 1: s.append("loud ").append(some(100)).append(' '); break;
                default: s.append("bar ");
            }
            either(s, some(6));
        }
        return s.toString();
    }

    private static void either(StringBuilder s, int depth) {
        for (int i = 0; i == 0 || some(4) == 0; i++) {
            s.append(i == 0 ? "" : some(2) == 0 ? "|" : "&");
            if (depth > 0 && some(3) != 0) {
                if (some(2) == 0) {
                    either(s.append('('), depth - 1);
                    s.append(')');
                } else {
                    s.append('!');
                    part(s, depth - 1);
                }
            } else {
                part(s, 0);
            }
        }
    }

    private static void part(StringBuilder s, int depth) {
        if (depth > 0) {
            either(s.append('('), depth - 1);
            s.append(')');
            return;
        }
        s.append("abkjtwr".charAt(some(7))).append("<=>".charAt(some(3))).append(some(some(2) == 0 ? 3 : 15));
    }

    private static void call(int most) {
        int a = wild(9), b = wild(9), c = wild(9);
        switch (some(30)) {
            case 0: if (y.count(0) < most || some(30) == 0) { pupil(); } break;
            case 1: same(told("of", a, b), x.of(a, b), y.of(a, b)); break;
            case 2: same(told("front", a, b < 3), x.front(a, b < 3), y.front(a, b < 3)); break;
            case 3: {
                int other = some(5) == 0 ? -1 : b;
                same(told("name", a, other), x.name(a, other), y.name(a, other));
                break;
            }
            case 4: same(told("sit", a, b), x.sit(a, b), y.sit(a, b)); break;
            case 5: if (some(4) == 0) { text(); } break;
            case 6: {
                int row = wild(2), what = wild(4);
                same(told("pair", a, b, row, what), x.pair(a, b, row, what), y.pair(a, b, row, what));
                break;
            }
            case 7: same(told("sitting", a % 4), x.sitting(a % 4), y.sitting(a % 4)); break;
            case 8: same("swap()", x.swap(), y.swap()); break;
            case 9: dear(wild(7) - 2); break;
            case 10: talk(); break;
            case 11: slips(a, b); break;
            case 12: same("month()", x.month(), y.month()); break;
            case 13: lots(a, b); break;
            case 14: same(told("judge", a % 7, b), x.judge(a % 7, b), y.judge(a % 7, b)); break;
            case 15: if (some(3) == 0) { same("image()", x.image(), y.image()); } break;
            case 16: if (some(3) == 0) { same("undo()", x.undo(), y.undo()); } break;
            case 17: acts(a); break;
            case 18: same(told("taken", a, b), x.taken(a, b), y.taken(a, b)); break;
            case 19: same(told("count", a), x.count(a), y.count(a)); break;
            default: tapes(a, b, c);
        }
    }

    private static void dear(int k) {
        if (dear == 0) {
            return;
        }
        dear--;
        switch (some(3)) {
            case 0: same(told("best", k), x.best(k), y.best(k)); break;
            case 1: same(told("cost", k), x.cost(k), y.cost(k)); break;
            default: same(told("next", k), x.next(k), y.next(k));
        }
    }

    private static void talk() {
        int first = wild(1 << Math.max(0, y.count(0)) + (some(9) == 0 ? 1 : 0));
        int minute = some(6) == 0 ? wild(64) : some(8);
        int what = wild(2);
        same(told("talk", first, minute), x.talk(first, minute), y.talk(first, minute));
        same(told("noise", first, minute, what), x.noise(first, minute, what), y.noise(first, minute, what));
        same(told("carries", first, minute), x.carries(first, minute), y.carries(first, minute));
    }

    private static void slips(int a, int b) {
        same(told("named", a), x.named(a), y.named(a));
        same(told("slips", b % 3), x.slips(b % 3), y.slips(b % 3));
        same(told("lacks", a % 3), x.lacks(a % 3), y.lacks(a % 3));
    }

    private static void lots(int a, int b) {
        if (dear == 0 || y.count(0) > 6 && some(10) != 0) {
            return;
        }
        dear--;
        int part = wild(2);
        int one = 10 * some(8) + some(8);
        int other = some(4) == 0 ? wild(88) : 10 * some(8) + some(8);
        same(told("mean", part), x.mean(part), y.mean(part));
        same(told("both", one, other, part), x.both(one, other, part), y.both(one, other, part));
    }

    private static void acts(int a) {
        int act = wild(3);
        int n = some(4) == 0 ? (int) (seed >>> 20) : some(50) - 20;
        same(told("act", a, act, n), x.act(a, act, n), y.act(a, act, n));
        for (int i = -1; i < 14; i++) {
            same(told("trace", i), x.trace(i), y.trace(i));
        }
    }

    private static void tapes(int a, int b, int c) {
        int tape = a % 7, other = b % 7;
        int sort = some(3) == 0 ? wild(6) : 1;
        long v = some(3) == 0 ? seed : some(9);
        switch (some(8)) {
            case 0: {
                int n = some(5) == 0 ? wild(64) : some(20);
                same(told("tape", tape, sort, n), x.tape(tape, sort, n), y.tape(tape, sort, n));
                break;
            }
            case 1: {
                int from = wild(20), to = wild(20), n = wild(12);
                same(told("shift", tape, from, other, to, n), x.shift(tape, from, other, to, n),
                    y.shift(tape, from, other, to, n));
                break;
            }
            case 2: same(told("read", tape, c), x.read(tape, c), y.read(tape, c)); break;
            case 3: write(tape, c); break;
            default: same(told("item", tape, c, v), x.item(tape, c, v), y.item(tape, c, v));
        }
    }

    /** The seats as they are, but for one now and then, so that a row can be judged. */
    private static void write(int tape, int from) {
        for (int p = 0; p < y.count(0) && from >= 0 && from < 50; p++) {
            long seat = some(20) == 0 ? some(8) : y.of(p, 7);
            same(told("item", tape, from + p, seat), x.item(tape, from + p, seat), y.item(tape, from + p, seat));
        }
        same(told("judge", tape, from), x.judge(tape, from), y.judge(tape, from));
    }
}
