import java.util.function.ToLongFunction;

/**
 * "What is answered so changes nothing; what is asked changes nothing." Each call that is refused, and each that
 * asks, is made of one of two classes that are alike; behind it both answer everything alike.
 */
public final class ChangesNothingTest {
    private static final String WORDS = "What is answered so changes nothing; what is asked changes nothing.";
    private static final long NO = WhoSitsBy.NO;
    private static final String HUNDRED = "bar a=1" + "|a=1&a=1".repeat(11) + "|a=15";
    // seats, behind pupils: a class that best and next answer of, and one that is full
    private static final int FEW = 5;
    private static final int ALL = 8;

    public static void main(String[] args) {
        refusedPupils();
        refusedRooms();
        refusedSittings();
        refusedLots();
        refusedJudging();
        refusedTapes();
        askedSittings();
        askedTalk();
        askedLots();
        askedTapes();
        acts();
        Due.end("ChangesNothingTest");
    }

    /** A class of which everything is in use: rooms, slips, fronts, months, an image and what came behind it, tapes. */
    private static WhoSitsBy made(int pupils) {
        WhoSitsBy x = new WhoSitsBy();
        for (int p = 0; p < pupils; p++) {
            x.pupil(p % 7, 9 - p, p + 1, (p * 5 + 3) % 10, p % 3);
        }
        Due.room(x, "learn 4 k>2;loud 3 j>9;bar a=0&b=1;hush 2");
        x.name(0, 1);
        x.name(1, 0);
        x.front(2, true);
        x.month();
        x.image();
        Due.room(x, "learn 7 t=1;bar t=0&w=2;hush 4");
        x.name(2, 0);
        x.front(3, true);
        x.front(2, false);
        x.sit(1, 6);
        x.month();
        x.act(3, 2, 5);
        for (int tape = 0; tape < 5; tape++) {
            x.tape(tape, tape, 4);
            x.item(tape, 1, 1);
            x.item(tape, 3, -1);
        }
        Due.feed(x, "hush 3");
        return x;
    }

    /** A class that has six rooms and a full text. */
    private static WhoSitsBy full() {
        WhoSitsBy x = Due.withPupils(ALL);
        for (int r = 0; r < 6; r++) {
            Due.room(x, "hush " + r);
        }
        Due.feed(x, HUNDRED);
        x.image();
        return x;
    }

    private static WhoSitsBy withoutImage() {
        WhoSitsBy x = Due.withPupils(3);
        x.sit(0, 6);
        x.name(1, 0);
        x.front(2, true);
        x.month();
        Due.feed(x, "hush 3");
        return x;
    }

    /** All that two classes answer is alike; the text and the image are asked for by what they come to. */
    private static void alike(String what, WhoSitsBy x, WhoSitsBy y) {
        standing(what, x, y);
        for (int i = -1; i < 8; i++) {
            Due.due(what + ", then trace(" + i + ")", x.trace(i), y.trace(i));
        }
        for (int tape = 0; tape < 6; tape++) {
            for (int i = 0; i < 5; i++) {
                Due.due(what + ", then read(" + tape + ", " + i + ")", x.read(tape, i), y.read(tape, i));
            }
        }
        Due.due(what + ", then feed('7')", x.feed('7'), y.feed('7'));
        Due.due(what + ", then room()", x.room(), y.room());
        Due.due(what + ", then sitting(2)", x.sitting(2), y.sitting(2));
        Due.due(what + ", then undo()", x.undo(), y.undo());
        standing(what + ", then undone", x, y);
    }

    private static void standing(String what, WhoSitsBy x, WhoSitsBy y) {
        for (int n = 0; n < 5; n++) {
            Due.due(what + ", then count(" + n + ")", x.count(n), y.count(n));
        }
        for (int p = 0; p < ALL; p++) {
            for (int n = 0; n < 9; n++) {
                Due.due(what + ", then of(" + p + ", " + n + ")", x.of(p, n), y.of(p, n));
            }
        }
        for (int n = 0; n < 3; n++) {
            Due.due(what + ", then sitting(" + n + ")", x.sitting(n), y.sitting(n));
        }
        Due.due(what + ", then lacks(0)", x.lacks(0), y.lacks(0));
        Due.due(what + ", then next(-1)", x.next(-1), y.next(-1));
    }

    private static void of(WhoSitsBy x, WhoSitsBy y, int promise, String told, ToLongFunction<WhoSitsBy> call) {
        Due.words(promise, WORDS);
        call.applyAsLong(x);
        alike(told, x, y);
    }

    private static void refused(int pupils, int promise, String told, ToLongFunction<WhoSitsBy> call, long due) {
        Due.words(promise, WORDS);
        Due.due(told, call.applyAsLong(made(pupils)), due);
        of(made(pupils), made(pupils), promise, told, call);
    }

    private static void asked(int promise, String told, ToLongFunction<WhoSitsBy> call) {
        of(made(FEW), made(FEW), promise, told, call);
        of(made(ALL), made(ALL), promise, told, call);
    }

    private static void refusedPupils() {
        refused(FEW, 2, "pupil(7, 0, 0, 0, 0)", x -> x.pupil(7, 0, 0, 0, 0), -1);
        refused(FEW, 2, "pupil(0, 10, 0, 0, 0)", x -> x.pupil(0, 10, 0, 0, 0), -2);
        refused(FEW, 2, "pupil(0, 0, 0, 0, 3)", x -> x.pupil(0, 0, 0, 0, 3), -2);
        refused(ALL, 2, "pupil(1, 2, 3, 4, 1)", x -> x.pupil(1, 2, 3, 4, 1), -4);
        refused(FEW, 3, "of(5, 0)", x -> x.of(5, 0), -1);
        refused(FEW, 3, "of(0, 9)", x -> x.of(0, 9), -1);
        refused(FEW, 4, "front(5, true)", x -> x.front(5, true), -1);
        refused(FEW, 4, "front(-1, true)", x -> x.front(-1, true), -1);
        refused(ALL, 4, "front(8, true)", x -> x.front(8, true), -1);
        refused(FEW, 4, "front(35, false)", x -> x.front(35, false), -1);
        refused(FEW, 5, "name(5, 0)", x -> x.name(5, 0), -1);
        refused(FEW, 5, "name(0, 5)", x -> x.name(0, 5), -1);
        refused(FEW, 5, "name(0, -2)", x -> x.name(0, -2), -1);
        refused(FEW, 5, "name(0, 0)", x -> x.name(0, 0), -2);
        refused(FEW, 6, "sit(5, 0)", x -> x.sit(5, 0), -1);
        refused(FEW, 6, "sit(-1, 0)", x -> x.sit(-1, 0), -1);
        refused(FEW, 6, "sit(0, 8)", x -> x.sit(0, 8), -1);
        refused(FEW, 6, "sit(0, -1)", x -> x.sit(0, -1), -1);
    }

    private static void refusedRooms() {
        refused(FEW, 7, "feed(-1)", x -> x.feed(-1), -2);
        refused(FEW, 7, "feed(128)", x -> x.feed(128), -2);
        Due.words(7, WORDS);
        Due.due("feed(97) of a full text", full().feed(97), -4);
        of(full(), full(), 7, "feed(97) of a full text", x -> x.feed(97));
        Due.words(8, WORDS);
        Due.due("room() of six", full().room(), -4);
        of(full(), full(), 8, "room() of six", x -> x.room());
        refused(FEW, 9, "pair(0, 5, 0, 3)", x -> x.pair(0, 5, 0, 3), -100001);
        refused(FEW, 9, "pair(0, 1, 2, 3)", x -> x.pair(0, 1, 2, 3), -100001);
        refused(FEW, 9, "pair(1, 1, 0, 3)", x -> x.pair(1, 1, 0, 3), -100002);
    }

    private static void refusedSittings() {
        refused(FEW, 10, "sitting(3)", x -> x.sitting(3), -100001);
        refused(FEW, 12, "best(5)", x -> x.best(5), -100001);
        refused(ALL, 12, "best(0)", x -> x.best(0), -9);
        refused(FEW, 13, "cost(2)", x -> x.cost(2), -1);
        refused(ALL, 13, "cost(0)", x -> x.cost(0), -9);
        refused(FEW, 14, "talk(32, 1)", x -> x.talk(32, 1), -2);
        refused(FEW, 14, "talk(1, 61)", x -> x.talk(1, 61), -2);
        refused(FEW, 15, "noise(1, 1, 2)", x -> x.noise(1, 1, 2), -1);
        refused(FEW, 15, "noise(32, 1, 0)", x -> x.noise(32, 1, 0), -2);
        refused(FEW, 16, "carries(32, 1)", x -> x.carries(32, 1), -2);
        refused(FEW, 16, "carries(1, 31)", x -> x.carries(1, 31), -2);
    }

    private static void refusedLots() {
        refused(FEW, 17, "named(5)", x -> x.named(5), -1);
        refused(FEW, 18, "slips(2)", x -> x.slips(2), -1);
        refused(FEW, 20, "lacks(2)", x -> x.lacks(2), -1);
        refused(FEW, 21, "next(5)", x -> x.next(5), -100001);
        refused(ALL, 21, "next(0)", x -> x.next(0), -9);
        refused(FEW, 22, "mean(2)", x -> x.mean(2), NO);
        refused(FEW, 23, "both(15, 1, 0)", x -> x.both(15, 1, 0), NO);
        refused(FEW, 23, "both(1, 1, 2)", x -> x.both(1, 1, 2), NO);
    }

    private static void refusedJudging() {
        refused(FEW, 24, "judge(6, 0)", x -> x.judge(6, 0), -1);
        refused(FEW, 24, "judge(2, 0)", x -> x.judge(2, 0), -12);
        refused(FEW, 28, "trace(20)", x -> x.trace(20), -1);
        refused(FEW, 29, "taken(0, 7)", x -> x.taken(0, 7), -2);
        refused(FEW, 29, "taken(5, 0)", x -> x.taken(5, 0), -11);
        refused(FEW, 29, "taken(0, 1)", x -> x.taken(0, 1), -12);
        refused(FEW, 30, "count(5)", x -> x.count(5), -2);
        Due.words(26, WORDS);
        Due.due("undo() without an image", withoutImage().undo(), -3);
        of(withoutImage(), withoutImage(), 26, "undo() without an image", WhoSitsBy::undo);
    }

    private static void refusedTapes() {
        refused(FEW, 31, "tape(6, 0, 1)", x -> x.tape(6, 0, 1), -1);
        refused(FEW, 31, "tape(0, 5, 1)", x -> x.tape(0, 5, 1), -2);
        refused(FEW, 31, "tape(1, 2, 61)", x -> x.tape(1, 2, 61), -2);
        refused(FEW, 31, "tape(2, 3, -1)", x -> x.tape(2, 3, -1), -14);
        refused(FEW, 31, "tape(5, 3, -1)", x -> x.tape(5, 3, -1), -14);
        refused(FEW, 32, "item(6, 0, 9)", x -> x.item(6, 0, 9), -1);
        refused(FEW, 32, "item(5, 0, 9)", x -> x.item(5, 0, 9), -11);
        refused(FEW, 32, "item(0, 4, 9)", x -> x.item(0, 4, 9), -13);
        refused(FEW, 32, "item(0, -1, 9)", x -> x.item(0, -1, 9), -13);
        refused(FEW, 33, "read(0, 4)", x -> x.read(0, 4), NO);
        refused(FEW, 34, "shift(0, 0, 6, 0, 1)", x -> x.shift(0, 0, 6, 0, 1), -1);
        refused(FEW, 34, "shift(0, 0, 5, 0, 1)", x -> x.shift(0, 0, 5, 0, 1), -11);
        refused(FEW, 34, "shift(2, 0, 3, 0, 4)", x -> x.shift(2, 0, 3, 0, 4), -12);
        refused(FEW, 34, "shift(2, 1, 2, 0, 4)", x -> x.shift(2, 1, 2, 0, 4), -13);
        refused(FEW, 34, "shift(2, 0, 2, 1, 4)", x -> x.shift(2, 0, 2, 1, 4), -13);
    }

    private static void askedSittings() {
        for (int what = 0; what < 9; what++) {
            int n = what;
            asked(3, "of(1, " + n + ")", x -> x.of(1, n));
        }
        for (int what = 0; what < 4; what++) {
            int n = what;
            asked(9, "pair(0, 1, 1, " + n + ")", x -> x.pair(0, 1, 1, n));
        }
        for (int what = 0; what < 3; what++) {
            int n = what;
            asked(10, "sitting(" + n + ")", x -> x.sitting(n));
        }
        asked(11, "swap()", WhoSitsBy::swap);
        asked(12, "best(-1)", x -> x.best(-1));
        asked(12, "best(0)", x -> x.best(0));
        asked(13, "cost(0)", x -> x.cost(0));
        asked(13, "cost(1)", x -> x.cost(1));
    }

    private static void askedTalk() {
        asked(14, "talk(31, 0)", x -> x.talk(31, 0));
        asked(14, "talk(5, 60)", x -> x.talk(5, 60));
        asked(15, "noise(7, 5, 0)", x -> x.noise(7, 5, 0));
        asked(15, "noise(7, 5, 1)", x -> x.noise(7, 5, 1));
        asked(16, "carries(31, 30)", x -> x.carries(31, 30));
    }

    private static void askedLots() {
        asked(17, "named(0)", x -> x.named(0));
        asked(18, "slips(0)", x -> x.slips(0));
        asked(18, "slips(1)", x -> x.slips(1));
        asked(20, "lacks(0)", x -> x.lacks(0));
        asked(20, "lacks(1)", x -> x.lacks(1));
        asked(21, "next(-1)", x -> x.next(-1));
        asked(21, "next(2)", x -> x.next(2));
        asked(22, "mean(0)", x -> x.mean(0));
        asked(22, "mean(1)", x -> x.mean(1));
        asked(23, "both(1, 23, 0)", x -> x.both(1, 23, 0));
        asked(23, "both(1, 12, 1)", x -> x.both(1, 12, 1));
    }

    private static void askedTapes() {
        asked(24, "judge(1, 0)", x -> x.judge(1, 0));
        asked(24, "judge(1, 3)", x -> x.judge(1, 3));
        asked(24, "judge(5, 0)", x -> x.judge(5, 0));
        asked(28, "trace(0)", x -> x.trace(0));
        asked(29, "taken(1, 0)", x -> x.taken(1, 0));
        for (int what = 0; what < 5; what++) {
            int n = what;
            asked(30, "count(" + n + ")", x -> x.count(n));
        }
        asked(33, "read(3, 1)", x -> x.read(3, 1));
    }

    /** An act leaves its trace, and nothing else. */
    private static void acts() {
        for (int act = -1; act <= 3; act++) {
            WhoSitsBy x = made(FEW);
            WhoSitsBy y = made(FEW);
            Due.words(27, WORDS);
            x.act(1, act, 7);
            x.act(0, 0, 0);
            y.act(0, 0, 0);
            alike("act(1, " + act + ", 7), and an act that is alike", x, y);
        }
    }
}
