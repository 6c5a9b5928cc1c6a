/** Promises 24 to 30: judging, the image, acts and their trace, kinds, counts. */
public final class ActsTest {
    public static void main(String[] args) {
        promise24Judge();
        promise24Refused();
        promise25And26Image();
        promise26Undo();
        promise27Act();
        promise27Refused();
        promise28Trace();
        promise29Taken();
        promise30Count();
        Due.end("ActsTest");
    }

    private static void promise24Judge() {
        WhoSitsBy x = Due.withPupils(3);
        x.sit(0, 6);
        x.tape(2, 1, 5);
        int[] told = {9, 6, 1, 2, 4};
        for (int i = 0; i < told.length; i++) {
            x.item(2, i, told[i]);
        }
        Due.due("all as told", x.judge(2, 1), -5);
        Due.due("0 elsewhere", x.judge(2, 0), 0);
        Due.due("0 elsewhere, at 2", x.judge(2, 2), 0);
        x.sit(0, 4);
        Due.due("the row ends behind 0", x.judge(2, 4), 101);
        Due.due("beyond the end", x.judge(2, 5), 100);
        Due.due("far beyond", x.judge(2, Integer.MAX_VALUE), 100);
        Due.due("below 0", x.judge(2, -1), 100);
        Due.due("far below", x.judge(2, Integer.MIN_VALUE), 100);
        x.sit(0, 2);
        x.sit(1, 4);
        Due.due("ends behind two", x.judge(2, 3), 102);
        x.sit(1, 0);
        Due.due("1 elsewhere", x.judge(2, 3), 1);
        x.sit(0, 6);
        x.sit(1, 1);
        x.sit(2, 5);
        Due.due("2 elsewhere", x.judge(2, 1), 2);
        Due.due("a tape of nothing", x.judge(0, 0), 100);
        x.tape(0, 1, 0);
        Due.due("a row of none", x.judge(0, 0), 100);
    }

    private static void promise24Refused() {
        WhoSitsBy x = new WhoSitsBy();
        Due.due("none to look at", x.judge(0, 0), -5);
        x.tape(0, 1, 2);
        Due.due("none to look at in a row", x.judge(0, 1), -5);
        x.tape(0, 2, 2);
        Due.due("ints, and nobody", x.judge(0, 0), -12);
        x.pupil(0, 0, 0, 0, 0);
        for (int sort = 0; sort < 5; sort++) {
            x.tape(0, sort, 2);
            Due.due("sort " + sort, x.judge(0, 0), sort == 1 ? -5 : -12);
            Due.due("sort " + sort + ", place -1", x.judge(0, -1), sort == 1 ? 100 : -12);
        }
        Due.due("tape 6", x.judge(6, 0), -1);
        Due.due("tape -1", x.judge(-1, 0), -1);
    }

    private static void promise25And26Image() {
        WhoSitsBy x = Due.withPupils(3);
        Due.room(x, "hush 2");
        x.name(0, 1);
        x.front(1, true);
        x.sit(2, 7);
        x.month();
        Due.due("image", x.image(), 3);
        x.pupil(4, 1, 2, 3, 1);
        x.name(3, 0);
        x.front(3, true);
        x.name(0, 2);
        x.name(1, 0);
        x.front(1, false);
        x.front(0, true);
        x.sit(2, 0);
        x.month();
        Due.room(x, "hush 3");
        Due.feed(x, "bar");
        x.tape(1, 0, 4);
        Due.due("undo", x.undo(), 3);
        Due.due("pupils", x.count(0), 3);
        Due.due("pairs", x.count(2), 1);
        Due.due("slip of 0", x.of(0, 6), 1);
        Due.due("slip of 1", x.of(1, 6), -5);
        Due.due("front of 0", x.of(0, 5), 0);
        Due.due("front of 1", x.of(1, 5), 1);
        Due.due("seat of 0", x.of(0, 7), 0);
        Due.due("seat of 2", x.of(2, 7), 7);
        Due.due("neighbour of 2", x.of(2, 8), -5);
        Due.due("which room holds", x.sitting(2), 2);
        Due.due("rooms stay", x.count(1), 2);
        Due.due("the text stays", x.count(3), 3);
        Due.due("tapes stay", x.read(1, 3), 0);
        Due.due("a new fourth", x.pupil(0, 0, 0, 0, 0), 3);
        Due.due("is in no front", x.of(3, 5), 0);
        Due.due("names nobody", x.of(3, 6), -5);
        Due.due("has the least free seat", x.of(3, 7), 2);
        Due.due("is of its own kind", x.of(3, 0), 0);
    }

    private static void promise26Undo() {
        WhoSitsBy x = new WhoSitsBy();
        Due.due("no image", x.undo(), -3);
        Due.due("an image of nobody", x.image(), 0);
        x.pupil(0, 0, 0, 0, 0);
        Due.room(x, "hush 1");
        Due.due("back to nobody", x.undo(), 0);
        Due.due("nobody", x.of(0, 0), -1);
        Due.due("no room", x.sitting(2), 5);
        Due.due("the next room's number", Due.room(x, "hush 7"), 1);
        x.pupil(1, 0, 0, 0, 0);
        Due.due("a newer image", x.image(), 1);
        x.pupil(2, 0, 0, 0, 0);
        Due.due("undo", x.undo(), 1);
        x.sit(0, 4);
        Due.due("undo again", x.undo(), 1);
        Due.due("seat", x.of(0, 7), 0);
        Due.due("room", x.sitting(2), 7);
    }

    private static void act(int kind, int act, int x, int due, int... bodies) {
        WhoSitsBy y = new WhoSitsBy();
        y.pupil(0, 0, 0, 0, 0);
        y.pupil(0, 0, 0, 0, 0);
        y.pupil(kind, 5, 0, 0, 0);
        String what = "kind " + kind + ", act " + act + " of " + x;
        Due.due(what, y.act(2, act, x), due);
        Due.due(what + ": how many ran", y.count(4), bodies.length);
        for (int i = 0; i < bodies.length; i++) {
            Due.due(what + ": body " + i, y.trace(i), bodies[i]);
        }
        Due.due(what + ": the end", y.trace(bodies.length), -1);
    }

    private static void promise27Act() {
        act(0, 0, 10, 12, 10);
        act(0, 1, 10, 7, 11, 10);
        act(0, 2, 10, 14, 12, 11, 10);
        act(1, 0, 10, 12, 10);
        act(1, 1, 10, 1, 20, 11, 10);
        act(1, 2, 10, 2, 12, 20, 11, 10);
        act(2, 0, 10, 32, 30, 10);
        act(2, 1, 10, 27, 11, 30, 10);
        act(2, 2, 10, 54, 12, 11, 30, 10);
        act(3, 0, 10, 12, 10);
        act(3, 1, 10, 7, 11, 10);
        act(3, 2, 10, 12, 40, 12, 11, 10, 11, 10);
        act(4, 0, 10, -12, 50, 10);
        act(4, 1, 10, -18 ^ 6, 51, 20, 11, 50, 10);
        act(4, 2, 10, (-18 ^ 6) * 2, 12, 51, 20, 11, 50, 10);
        act(5, 0, 10, 32, 30, 10);
        act(5, 1, 10, 27, 11, 30, 10);
        act(5, 2, 10, 42, 60, 12, 11, 30, 10);
        act(6, 0, 10, 9, 71, 10);
        act(6, 1, 10, 8, 70, 11, 71, 10, 10);
        act(6, 2, 10, 21, 40, 12, 70, 11, 71, 10, 10, 70, 11, 71, 10, 10);
        act(0, 0, Integer.MAX_VALUE, Integer.MIN_VALUE + 1, 10);
        act(2, 0, 1 << 31, Integer.MIN_VALUE + 2, 30, 10);
    }

    private static void promise27Refused() {
        WhoSitsBy x = Due.withPupils(1);
        x.act(0, 1, 4);
        Due.due("act 3", x.act(0, 3, 4), 0);
        Due.due("no trace then", x.count(4), 0);
        Due.due("no body", x.trace(0), -1);
        x.act(0, 1, 4);
        Due.due("act -1", x.act(0, -1, 4), 0);
        Due.due("no trace then, -1", x.count(4), 0);
        x.act(0, 1, 4);
        Due.due("pupil 1", x.act(1, 0, 4), 0);
        Due.due("no trace of pupil 1", x.count(4), 0);
        x.act(0, 1, 4);
        Due.due("pupil -1", x.act(-1, 0, 4), 0);
        Due.due("no trace of pupil -1", x.trace(0), -1);
    }

    private static void promise28Trace() {
        WhoSitsBy x = Due.withPupils(1);
        Due.due("no act yet", x.trace(0), -1);
        x.act(0, 2, 1);
        Due.due("first", x.trace(0), 12);
        Due.due("last", x.trace(2), 10);
        Due.due("beyond", x.trace(3), -1);
        Due.due("below", x.trace(-1), -1);
        Due.due("far", x.trace(Integer.MAX_VALUE), -1);
        x.act(0, 0, 1);
        Due.due("the latest act alone", x.trace(0), 10);
        Due.due("no more of the one before", x.trace(1), -1);
    }

    private static void promise29Taken() {
        int[][] above = {{0}, {0, 1}, {0, 2}, {0, 3}, {0, 1, 4}, {0, 2, 5}, {0, 3, 6}};
        for (int kind = 0; kind < 7; kind++) {
            WhoSitsBy x = new WhoSitsBy();
            x.pupil(kind, 0, 0, 0, 0);
            for (int k = 0; k < 7; k++) {
                boolean is = false;
                for (int one : above[kind]) {
                    is |= one == k;
                }
                Due.due("kind " + kind + " taken for " + k, x.taken(0, k), is ? kind : -12);
            }
        }
        WhoSitsBy x = Due.withPupils(1);
        Due.due("k 7", x.taken(0, 7), -2);
        Due.due("k -1", x.taken(0, -1), -2);
        Due.due("bad ahead of nothing", x.taken(1, 7), -2);
        Due.due("no such pupil", x.taken(1, 0), -11);
        Due.due("pupil -1", x.taken(-1, 3), -11);
    }

    private static void promise30Count() {
        WhoSitsBy x = Due.withPupils(4);
        Due.room(x, "hush 1");
        Due.room(x, "hush 1");
        Due.room(x, "nothing");
        x.month();
        Due.feed(x, "bar a=1");
        x.act(0, 2, 0);
        int[] many = {4, 2, 2, 7, 3};
        for (int what = 0; what < many.length; what++) {
            Due.due("count " + what, x.count(what), many[what]);
        }
        Due.due("count -1", x.count(-1), -2);
        Due.due("count 5", x.count(5), -2);
    }
}
