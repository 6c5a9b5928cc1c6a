/** Promises 24 to 30: judging, the image, acts and their trace, kinds, counts. */
public final class ActsTest {
    private static final int[] FAR = {-1, Integer.MIN_VALUE, Integer.MAX_VALUE};

    public static void main(String[] args) {
        promise24Elsewhere();
        promise24Ends();
        promise24Below();
        promise24Nothing();
        promise24Nobody();
        promise24Items();
        promise24None();
        promise24Cast();
        promise25Image();
        promise26Undo();
        promise26Again();
        promise26NotInIt();
        promise26Full();
        promise26State();
        promise27Bodies();
        promise27Above();
        promise27Wrapping();
        promise27Nothing();
        promise28Trace();
        promise28FromTheLeft();
        promise28Kept();
        promise28None();
        promise29Taken();
        promise29Bad();
        promise29Nothing();
        promise29Cast();
        promise30Count();
        promise30Bodies();
        promise30Bad();
        Due.end("ActsTest");
    }

    private static void row(WhoSitsBy x, int tape, int sort, int... told) {
        x.tape(tape, sort, told.length);
        for (int i = 0; i < told.length; i++) {
            x.item(tape, i, told[i]);
        }
    }

    private static void promise24Elsewhere() {
        Due.words(24, "the first PUPIL who sits elsewhere; -5: none");
        WhoSitsBy x = Due.withPupils(3);
        x.sit(0, 6);
        row(x, 2, 1, 9, 6, 1, 2, 4);
        Due.due("all as told", x.judge(2, 1), -5);
        Due.due("0 elsewhere", x.judge(2, 0), 0);
        Due.due("0 elsewhere, at 2", x.judge(2, 2), 0);
        x.sit(1, 3);
        Due.due("1 elsewhere", x.judge(2, 1), 1);
        x.sit(1, 1);
        x.sit(2, 5);
        Due.due("2 elsewhere", x.judge(2, 1), 2);
        x.sit(1, 3);
        Due.due("1 and 2 elsewhere: the first", x.judge(2, 1), 1);
        x = Due.withPupils(8);
        row(x, 0, 1, 0, 1, 2, 3, 4, 5, 6, 7);
        Due.due("all eight, to the row's end", x.judge(0, 0), -5);
        x.item(0, 7, 6);
        Due.due("the last one elsewhere", x.judge(0, 0), 7);
        x.tape(0, 1, 60);
        for (int p = 0; p < 8; p++) {
            x.item(0, 52 + p, p);
        }
        Due.due("at the end of the longest row", x.judge(0, 52), -5);
    }

    private static void promise24Ends() {
        Due.words(24, "100 and how many were looked at, if the row ends ahead of that");
        WhoSitsBy x = Due.withPupils(3);
        x.sit(0, 4);
        row(x, 2, 1, 9, 6, 1, 2, 4);
        Due.due("behind 0", x.judge(2, 4), 101);
        Due.due("at the end", x.judge(2, 5), 100);
        Due.due("beyond the end", x.judge(2, 6), 100);
        Due.due("far beyond", x.judge(2, Integer.MAX_VALUE), 100);
        x.sit(0, 2);
        x.sit(1, 4);
        Due.due("behind two", x.judge(2, 3), 102);
        x.sit(1, 0);
        Due.due("ahead of the end, 1 is elsewhere", x.judge(2, 3), 1);
        row(x, 0, 1, 2, 0);
        Due.due("behind two of three", x.judge(0, 0), 102);
        row(x, 0, 1);
        Due.due("a row of none", x.judge(0, 0), 100);
        x = Due.withPupils(8);
        row(x, 0, 1, 0, 1, 2, 3, 4, 5, 6);
        Due.due("behind seven of eight", x.judge(0, 0), 107);
    }

    private static void promise24Below() {
        Due.words(24, "(or the place is below 0, or the TAPE holds nothing)");
        WhoSitsBy x = Due.withPupils(2);
        row(x, 2, 1, 0, 1, 0, 1);
        Due.due("place 0", x.judge(2, 0), -5);
        for (int i : new int[] {-1, -2, -4, Integer.MIN_VALUE}) {
            Due.due("place " + i, x.judge(2, i), 100);
        }
    }

    private static void promise24Nothing() {
        Due.words(24, "or the TAPE holds nothing)");
        WhoSitsBy x = Due.withPupils(2);
        for (int tape = 0; tape < 6; tape++) {
            Due.due("tape " + tape, x.judge(tape, 0), 100);
        }
        row(x, 3, 1, 0, 1);
        Due.due("as told", x.judge(3, 0), -5);
        x.tape(3, -1, 0);
        Due.due("nothing any more", x.judge(3, 0), 100);
        Due.due("nothing, a place below 0", x.judge(3, -1), 100);
        Due.due("nothing, a place beyond", x.judge(3, Integer.MAX_VALUE), 100);
    }

    private static void promise24Nobody() {
        Due.words(24, "-5: none, or there is none to look at");
        WhoSitsBy x = new WhoSitsBy();
        Due.due("of nothing", x.judge(0, 0), -5);
        row(x, 0, 1, 3, 4);
        Due.due("of a row", x.judge(0, 1), -5);
        Due.due("at its end", x.judge(0, 2), -5);
        Due.due("beyond its end", x.judge(0, 3), -5);
        Due.due("below 0", x.judge(0, -1), -5);
        Due.due("below 0, of nothing", x.judge(1, -1), -5);
        row(x, 0, 1);
        Due.due("of a row of none", x.judge(0, 0), -5);
    }

    private static void promise24Items() {
        Due.words(24, "SEATS told by a row of shorts");
        WhoSitsBy x = Due.withPupils(1);
        x.tape(0, 1, 1);
        x.item(0, 0, 65536);
        Due.due("of 65536 a short keeps 0", x.judge(0, 0), -5);
        x.item(0, 0, -1);
        Due.due("no seat at all", x.judge(0, 0), 0);
        x.item(0, 0, 8);
        Due.due("no seat at all, 8", x.judge(0, 0), 0);
    }

    private static void promise24None() {
        Due.words(24, "NONE: tape");
        WhoSitsBy x = Due.withPupils(1);
        Due.due("tape 6", x.judge(6, 0), -1);
        for (int tape : FAR) {
            Due.due("tape " + tape, x.judge(tape, 0), -1);
        }
        Due.due("tape 6, and nobody", new WhoSitsBy().judge(6, 0), -1);
    }

    private static void promise24Cast() {
        Due.words(24, "CAST: it is no row of shorts.");
        WhoSitsBy x = Due.withPupils(1);
        WhoSitsBy y = new WhoSitsBy();
        for (int sort = 0; sort < 5; sort++) {
            x.tape(0, sort, 2);
            Due.due("sort " + sort, x.judge(0, 0), sort == 1 ? -5 : -12);
            Due.due("sort " + sort + ", place -1", x.judge(0, -1), sort == 1 ? 100 : -12);
            Due.due("sort " + sort + ", place 2", x.judge(0, 2), sort == 1 ? 100 : -12);
            y.tape(0, sort, 0);
            Due.due("sort " + sort + ", and nobody", y.judge(0, 0), sort == 1 ? -5 : -12);
        }
    }

    private static WhoSitsBy imaged() {
        WhoSitsBy x = Due.withPupils(3);
        Due.room(x, "hush 2");
        x.name(0, 1);
        x.front(1, true);
        x.sit(2, 7);
        x.month();
        Due.due("image", x.image(), 3);
        return x;
    }

    private static void promise25Image() {
        Due.words(25, "THE IMAGE is taken: how many PUPILS there are.");
        for (int n = 0; n <= 8; n++) {
            Due.due("image of " + n, Due.withPupils(n).image(), n);
        }
        WhoSitsBy x = imaged();
        x.sit(0, 3);
        x.pupil(0, 0, 0, 0, 0);
        Due.due("a newer one", x.image(), 4);
        x.sit(0, 5);
        x.undo();
        Due.due("is the one that counts", x.of(0, 7), 3);
    }

    private static void promise26Undo() {
        Due.words(26, "THE IMAGE: PUPILS with SEATS, FRONT, SLIPS, pairs put down, which ROOM holds.");
        WhoSitsBy x = imaged();
        x.pupil(4, 1, 2, 3, 1);
        x.name(3, 0);
        x.front(3, true);
        x.name(0, 2);
        x.name(1, 0);
        x.front(1, false);
        x.front(0, true);
        x.sit(2, 0);
        x.month();
        Due.room(x, "hush 3");
        Due.due("undo", x.undo(), 3);
        Due.due("pupils", x.count(0), 3);
        Due.due("no fourth", x.of(3, 0), -1);
        Due.due("pairs", x.count(2), 1);
        Due.due("pairs to come", x.lacks(0), 2);
        Due.due("slip of 0", x.of(0, 6), 1);
        Due.due("slip of 1", x.of(1, 6), -5);
        Due.due("named", x.named(0), 0);
        Due.due("front of 0", x.of(0, 5), 0);
        Due.due("front of 1", x.of(1, 5), 1);
        Due.due("seat of 0", x.of(0, 7), 0);
        Due.due("seat of 2", x.of(2, 7), 7);
        Due.due("neighbour of 2", x.of(2, 8), -5);
        Due.due("which room holds", x.sitting(2), 2);
        Due.due("a new fourth", x.pupil(0, 0, 0, 0, 0), 3);
        Due.due("is in no front", x.of(3, 5), 0);
        Due.due("names nobody", x.of(3, 6), -5);
        Due.due("has the least free seat", x.of(3, 7), 2);
        Due.due("is of its own kind", x.of(3, 0), 0);
        Due.due("was by nobody yet", x.lacks(0), 5);
    }

    private static void promise26Again() {
        Due.words(26, "All is as THE IMAGE: how many PUPILS.");
        WhoSitsBy x = new WhoSitsBy();
        Due.due("an image of nobody", x.image(), 0);
        x.pupil(0, 0, 0, 0, 0);
        Due.room(x, "hush 1");
        Due.due("back to nobody", x.undo(), 0);
        Due.due("nobody", x.of(0, 0), -1);
        Due.due("no room", x.sitting(2), 5);
        Due.due("the next room's number", Due.room(x, "hush 7"), 1);
        x.pupil(1, 0, 0, 0, 0);
        Due.due("a newer image", x.image(), 1);
        x.pupil(2, 0, 0, 0, 0);
        Due.due("undo", x.undo(), 1);
        x.sit(0, 4);
        Due.due("undo again", x.undo(), 1);
        Due.due("seat", x.of(0, 7), 0);
        Due.due("room", x.sitting(2), 7);
    }

    private static void promise26NotInIt() {
        Due.words(26, "All is as THE IMAGE");
        WhoSitsBy x = imaged();
        Due.room(x, "hush 3");
        Due.feed(x, "bar");
        row(x, 1, 0, 5, 6);
        x.act(0, 1, 0);
        Due.due("undo", x.undo(), 3);
        Due.due("rooms stay", x.count(1), 2);
        Due.due("the text stays", x.count(3), 3);
        Due.due("tapes stay", x.read(1, 1), 6);
        Due.due("the trace stays", x.trace(0), 11);
        for (int r = 2; r < 6; r++) {
            x.room();
            x.undo();
            Due.due("room " + r, Due.room(x, "hush 4"), r);
        }
        x.undo();
        Due.due("six, with an undo, too", x.room(), -4);
        Due.due("the image's own room still holds", x.sitting(2), 2);
    }

    private static void promise26Full() {
        Due.words(26, "All is as THE IMAGE: how many PUPILS.");
        WhoSitsBy x = Due.withPupils(7);
        x.image();
        x.pupil(0, 0, 0, 0, 0);
        Due.due("full", x.pupil(0, 0, 0, 0, 0), -4);
        Due.due("back to seven", x.undo(), 7);
        Due.due("one more", x.pupil(1, 0, 0, 0, 0), 7);
        Due.due("an image of eight", x.image(), 8);
        x.sit(7, 0);
        Due.due("back to eight", x.undo(), 8);
        Due.due("each where they were", x.of(7, 7), 7);
    }

    private static void promise26State() {
        Due.words(26, "STATE: there is none.");
        WhoSitsBy x = new WhoSitsBy();
        Due.due("no image", x.undo(), -3);
        x.pupil(0, 0, 0, 0, 0);
        x.sit(0, 3);
        Due.due("no image yet", x.undo(), -3);
        Due.due("nothing is undone", x.of(0, 7), 3);
        x.image();
        Due.due("an image", x.undo(), 1);
    }

    private static void act(int kind, int act, int x, int due, int... bodies) {
        WhoSitsBy y = new WhoSitsBy();
        y.pupil(0, 0, 0, 0, 0);
        y.pupil(0, 0, 0, 0, 0);
        y.pupil(kind, 5, 0, 0, 0);
        String what = "kind " + kind + ", act " + act + " of " + x;
        Due.due(what, y.act(2, act, x), due);
        Due.due(what + ": how many ran", y.count(4), bodies.length);
        for (int i = 0; i < bodies.length; i++) {
            Due.due(what + ": body " + i, y.trace(i), bodies[i]);
        }
        Due.due(what + ": the end", y.trace(bodies.length), -1);
    }

    private static void promise27Bodies() {
        Due.words(27, "PUPIL: 10 sits: x + i. 11 talks: sits(x) - v. 12 tells: talks(x) * 2.");
        act(0, 0, 10, 12, 10);
        act(0, 1, 10, 7, 11, 10);
        act(0, 2, 10, 14, 12, 11, 10);
        Due.words(27, "HELPING: 20 talks: super.talks(x) ^ 6.");
        act(1, 0, 10, 12, 10);
        act(1, 1, 10, 1, 20, 11, 10);
        act(1, 2, 10, 2, 12, 20, 11, 10);
        Due.words(27, "TALKER: 30 sits: super.sits(x * 3).");
        act(2, 0, 10, 32, 30, 10);
        act(2, 1, 10, 27, 11, 30, 10);
        act(2, 2, 10, 54, 12, 11, 30, 10);
        Due.words(27, "WISHED: 40 tells: super.tells(x) + talks(1).");
        act(3, 0, 10, 12, 10);
        act(3, 1, 10, 7, 11, 10);
        act(3, 2, 10, 12, 40, 12, 11, 10, 11, 10);
        Due.words(27, "LEFT: 50 sits: -super.sits(x). 51 talks: super.talks(x + 1).");
        act(4, 0, 10, -12, 50, 10);
        act(4, 1, 10, -18 ^ 6, 51, 20, 11, 50, 10);
        act(4, 2, 10, (-18 ^ 6) * 2, 12, 51, 20, 11, 50, 10);
        Due.words(27, "CARRIER: 60 tells: super.tells(x - i).");
        act(5, 0, 10, 32, 30, 10);
        act(5, 1, 10, 27, 11, 30, 10);
        act(5, 2, 10, 42, 60, 12, 11, 30, 10);
        Due.words(27, "HOPED: 70 talks: super.talks(x) + super.sits(2). 71 sits: super.sits(x) ^ v.");
        act(6, 0, 10, 9, 71, 10);
        act(6, 1, 10, 8, 70, 11, 71, 10, 10);
        act(6, 2, 10, 21, 40, 12, 70, 11, 71, 10, 10, 70, 11, 71, 10, 10);
    }

    private static void promise27Above() {
        Due.words(27, "the body of its KIND, or, if that has none, of the next KIND above that has one");
        act(1, 0, 1, 3, 10);
        act(3, 1, 1, -2, 11, 10);
        act(4, 2, 1, 2 * (-9 ^ 6), 12, 51, 20, 11, 50, 10);
        act(5, 0, 1, 5, 30, 10);
        act(6, 2, 1, 15, 40, 12, 70, 11, 71, 10, 10, 70, 11, 71, 10, 10);
        Due.words(27, "super.sits(..): so from the KIND above the body's on");
        act(4, 0, 1, -3, 50, 10);
        act(4, 1, 1, -9 ^ 6, 51, 20, 11, 50, 10);
        act(5, 2, 1, 2 * (3 * -1 + 2 - 5), 60, 12, 11, 30, 10);
        act(6, 1, 1, 5, 70, 11, 71, 10, 10);
    }

    private static void promise27Wrapping() {
        Due.words(27, "ACTS of a PUPIL with x (wrapping)");
        int least = Integer.MIN_VALUE;
        int most = Integer.MAX_VALUE;
        act(0, 0, most, least + 1, 10);
        act(0, 0, least, least + 2, 10);
        act(0, 1, least, most - 2, 11, 10);
        act(0, 2, 1 << 30, 2 * (1 << 30) - 6, 12, 11, 10);
        act(0, 2, (1 << 30) + 3, least, 12, 11, 10);
        act(1, 1, least, most - 2 ^ 6, 20, 11, 10);
        act(2, 0, least, least + 2, 30, 10);
        act(2, 0, most, most, 30, 10);
        act(2, 0, 1 << 30, -(1 << 30) + 2, 30, 10);
        act(3, 2, least + 3, -2, 40, 12, 11, 10, 11, 10);
        act(4, 0, most - 1, least, 50, 10);
        act(4, 1, most, most - 6 ^ 6, 51, 20, 11, 50, 10);
        act(4, 1, most - 2, most - 4 ^ 6, 51, 20, 11, 50, 10);
        act(5, 2, least, 2 * (3 * (most - 1) - 3), 60, 12, 11, 30, 10);
        act(6, 0, most, least + 1 ^ 5, 71, 10);
        act(6, 1, most - 1, (least ^ 5) - 5 + 4, 70, 11, 71, 10, 10);
    }

    private static void promise27Nothing() {
        Due.words(27, "0, and no TRACE then: no such PUPIL, act.");
        int[] wrong = {-1, 3, Integer.MIN_VALUE, Integer.MAX_VALUE};
        for (int n : wrong) {
            WhoSitsBy x = Due.withPupils(3);
            Due.due("an act", x.act(2, 1, 4), 6);
            Due.due("act " + n, x.act(2, n, 4), 0);
            Due.due("no bodies, act " + n, x.count(4), 0);
            Due.due("no trace, act " + n, x.trace(0), -1);
            Due.due("an act once more", x.act(2, 1, 4), 6);
            Due.due("pupil " + n, x.act(n, 1, 4), 0);
            Due.due("no bodies, pupil " + n, x.count(4), 0);
            Due.due("no trace, pupil " + n, x.trace(0), -1);
        }
    }

    private static void promise28Trace() {
        Due.words(28, "the numbers of the bodies that ran in the latest act(), as they began");
        WhoSitsBy x = Due.withPupils(1);
        Due.due("no act yet", x.trace(0), -1);
        x.act(0, 2, 1);
        Due.due("first", x.trace(0), 12);
        Due.due("second", x.trace(1), 11);
        Due.due("last", x.trace(2), 10);
        x.act(0, 0, 1);
        Due.due("the latest act alone", x.trace(0), 10);
        Due.due("no more of the one before", x.trace(1), -1);
    }

    private static void promise28FromTheLeft() {
        Due.words(28, "all that stands in a body is done from the left on");
        WhoSitsBy x = new WhoSitsBy();
        x.pupil(6, 0, 0, 0, 0);
        x.pupil(3, 0, 0, 0, 0);
        x.act(0, 1, 1);
        int[] hoped = {70, 11, 71, 10, 10};
        for (int i = 0; i < hoped.length; i++) {
            Due.due("hoped, body " + i, x.trace(i), hoped[i]);
        }
        x.act(1, 2, 1);
        int[] wished = {40, 12, 11, 10, 11, 10};
        for (int i = 0; i < wished.length; i++) {
            Due.due("wished, body " + i, x.trace(i), wished[i]);
        }
    }

    private static void promise28Kept() {
        Due.words(28, "the first 20 are kept");
        WhoSitsBy x = new WhoSitsBy();
        x.pupil(6, 0, 0, 0, 0);
        x.act(0, 2, 1);
        // no act has more bodies than these
        int[] bodies = {40, 12, 70, 11, 71, 10, 10, 70, 11, 71, 10, 10};
        for (int i = 0; i < 22; i++) {
            Due.due("body " + i, x.trace(i), i < bodies.length ? bodies[i] : -1);
        }
    }

    private static void promise28None() {
        Due.words(28, "THE TRACE's i-th body. NONE.");
        WhoSitsBy x = Due.withPupils(1);
        for (int i : FAR) {
            Due.due("no act, " + i, x.trace(i), -1);
        }
        x.act(0, 1, 1);
        Due.due("body 1", x.trace(1), 10);
        Due.due("body 2", x.trace(2), -1);
        for (int i : FAR) {
            Due.due("body " + i, x.trace(i), -1);
        }
    }

    private static WhoSitsBy ofEachKind() {
        WhoSitsBy x = new WhoSitsBy();
        for (int kind = 0; kind < 7; kind++) {
            x.pupil(kind, 0, 0, 0, 0);
        }
        return x;
    }

    private static void promise29Taken() {
        Due.words(29, "A PUPIL taken for one of KIND k (0 .. 6), or one under that: its KIND.");
        int[][] above = {{0}, {0, 1}, {0, 2}, {0, 3}, {0, 1, 4}, {0, 2, 5}, {0, 3, 6}};
        WhoSitsBy x = ofEachKind();
        for (int kind = 0; kind < 7; kind++) {
            for (int k : above[kind]) {
                Due.due("kind " + kind + " taken for " + k, x.taken(kind, k), kind);
            }
        }
    }

    private static void promise29Bad() {
        Due.words(29, "BAD: k");
        WhoSitsBy x = ofEachKind();
        for (int pupil = 0; pupil < 7; pupil++) {
            Due.due("k 7", x.taken(pupil, 7), -2);
            for (int k : FAR) {
                Due.due("k " + k, x.taken(pupil, k), -2);
            }
        }
        Due.words(29, "the first that a call's words name");
        Due.due("bad ahead of nothing", x.taken(7, 7), -2);
        Due.due("bad ahead of nothing, -1", x.taken(-1, -1), -2);
    }

    private static void promise29Nothing() {
        Due.words(29, "NOTHING: no such PUPIL");
        WhoSitsBy x = ofEachKind();
        for (int k = 0; k < 7; k++) {
            Due.due("pupil 7, k " + k, x.taken(7, k), -11);
            for (int pupil : FAR) {
                Due.due("pupil " + pupil + ", k " + k, x.taken(pupil, k), -11);
            }
        }
    }

    private static void promise29Cast() {
        Due.words(29, "NOTHING: no such PUPIL; CAST.");
        int[][] not = {{1, 2, 3, 4, 5, 6}, {2, 3, 4, 5, 6}, {1, 3, 4, 5, 6}, {1, 2, 4, 5, 6}, {2, 3, 5, 6},
            {1, 3, 4, 6}, {1, 2, 4, 5}};
        WhoSitsBy x = ofEachKind();
        for (int kind = 0; kind < 7; kind++) {
            for (int k : not[kind]) {
                Due.due("kind " + kind + " taken for " + k, x.taken(kind, k), -12);
            }
        }
    }

    private static void promise30Count() {
        Due.words(30, "0 PUPILS, 1 ROOMS, 2 pairs put down, 3 bytes of THE TEXT");
        WhoSitsBy x = Due.withPupils(4);
        Due.room(x, "hush 1");
        Due.room(x, "hush 1");
        Due.room(x, "nothing");
        x.month();
        Due.feed(x, "bar a=1");
        int[] many = {4, 2, 2, 7};
        for (int what = 0; what < many.length; what++) {
            Due.due("count " + what, x.count(what), many[what]);
        }
    }

    private static void promise30Bodies() {
        Due.words(30, "4 bodies that ran in the latest act() (all, kept or not)");
        WhoSitsBy x = new WhoSitsBy();
        x.pupil(6, 0, 0, 0, 0);
        Due.due("no act yet", x.count(4), 0);
        x.act(0, 2, 0);
        Due.due("the most of all", x.count(4), 12);
        x.act(0, 0, 0);
        Due.due("the latest alone", x.count(4), 2);
        x.act(1, 0, 0);
        Due.due("none ran", x.count(4), 0);
    }

    private static void promise30Bad() {
        Due.words(30, "(all, kept or not). BAD.");
        WhoSitsBy x = Due.withPupils(2);
        Due.due("count 5", x.count(5), -2);
        for (int what : FAR) {
            Due.due("count " + what, x.count(what), -2);
        }
    }
}
