/** Promises 31 to 34: tapes, their items, reading and shifting them. */
public final class TapesTest {
    private static final int[] FAR = {-1, Integer.MIN_VALUE, Integer.MAX_VALUE};

    public static void main(String[] args) {
        promise31AtFirst();
        promise31Sizes();
        promise31Anew();
        promise31Nothing();
        promise31None();
        promise31Bad();
        promise31Size();
        promise31FirstNamed();
        promise32Item();
        promise32Bits();
        promise32Booleans();
        promise32None();
        promise32Nothing();
        promise32Place();
        promise33Read();
        promise33No();
        promise34Shift();
        promise34Ends();
        promise34Sorts();
        promise34None();
        promise34Nothing();
        promise34Cast();
        promise34Place();
        Due.end("TapesTest");
    }

    private static void promise31AtFirst() {
        Due.words(31, "TAPES 0 .. 5 hold nothing (at first)");
        WhoSitsBy x = new WhoSitsBy();
        for (int tape = 0; tape < 6; tape++) {
            Due.due("read of " + tape, x.read(tape, 0), WhoSitsBy.NO);
            Due.due("item of " + tape, x.item(tape, 0, 0), -11);
            Due.due("shift of " + tape, x.shift(tape, 0, tape, 0, 0), -11);
        }
        for (int tape = 0; tape < 6; tape++) {
            Due.due("tape " + tape, x.tape(tape, 3, tape + 1), 1);
        }
        for (int tape = 0; tape < 6; tape++) {
            Due.due("each its own length " + tape, x.read(tape, tape), 0);
            Due.due("each its own end " + tape, x.read(tape, tape + 1), WhoSitsBy.NO);
        }
    }

    private static void promise31Sizes() {
        Due.words(31, "A TAPE becomes a row of n (0 .. 60) of a sort, all 0");
        WhoSitsBy x = new WhoSitsBy();
        for (int sort = 0; sort < 5; sort++) {
            Due.due("60 of sort " + sort, x.tape(sort, sort, 60), 1);
            for (int i = 0; i < 60; i++) {
                Due.due("item " + i, x.read(sort, i), 0);
            }
            Due.due("beyond it", x.read(sort, 60), WhoSitsBy.NO);
            Due.due("none of sort " + sort, x.tape(sort, sort, 0), 1);
            Due.due("no first", x.read(sort, 0), WhoSitsBy.NO);
            Due.due("no place", x.item(sort, 0, 1), -13);
        }
    }

    private static void promise31Anew() {
        Due.words(31, "of a sort, all 0");
        WhoSitsBy x = new WhoSitsBy();
        x.tape(0, 0, 4);
        for (int i = 0; i < 4; i++) {
            x.item(0, i, 6);
        }
        Due.due("anew", x.tape(0, 0, 3), 1);
        Due.due("all 0", x.read(0, 2), 0);
        Due.due("all 0, the first", x.read(0, 0), 0);
        Due.due("shorter", x.read(0, 3), WhoSitsBy.NO);
        Due.due("longer again", x.tape(0, 0, 9), 1);
        Due.due("all 0 again", x.read(0, 3), 0);
        x.item(0, 8, 7);
        Due.due("another sort", x.tape(0, 3, 9), 1);
        Due.due("all 0 in it", x.read(0, 8), 0);
    }

    private static void promise31Nothing() {
        Due.words(31, "or holds nothing (sort -1: n does not matter): 1");
        WhoSitsBy x = new WhoSitsBy();
        int[] any = {0, 60, 61, -1, Integer.MAX_VALUE, Integer.MIN_VALUE};
        for (int n : any) {
            x.tape(0, 2, 3);
            x.item(0, 0, 5);
            Due.due("n " + n, x.tape(0, -1, n), 1);
            Due.due("nothing there, n " + n, x.read(0, 0), WhoSitsBy.NO);
            Due.due("nothing for an item, n " + n, x.item(0, 0, 0), -11);
        }
        Due.due("nothing, of nothing", x.tape(1, -1, 0), 1);
        Due.due("a row again", x.tape(0, 2, 3), 1);
        Due.due("all 0", x.read(0, 0), 0);
    }

    private static void promise31None() {
        Due.words(31, "NONE: tape");
        WhoSitsBy x = new WhoSitsBy();
        Due.due("tape 6", x.tape(6, 0, 1), -1);
        for (int tape : FAR) {
            Due.due("tape " + tape, x.tape(tape, 0, 1), -1);
            Due.due("tape " + tape + " of nothing", x.tape(tape, -1, 1), -1);
        }
    }

    private static void promise31Bad() {
        Due.words(31, "BAD: sort, n above 60");
        WhoSitsBy x = new WhoSitsBy();
        x.tape(0, 3, 2);
        x.item(0, 1, 7);
        Due.due("sort -2", x.tape(0, -2, 1), -2);
        Due.due("sort 5", x.tape(0, 5, 1), -2);
        Due.due("sort far", x.tape(0, Integer.MAX_VALUE, 1), -2);
        Due.due("sort far below", x.tape(0, Integer.MIN_VALUE, 1), -2);
        for (int sort = 0; sort < 5; sort++) {
            Due.due("n 61 of sort " + sort, x.tape(0, sort, 61), -2);
            Due.due("n far of sort " + sort, x.tape(0, sort, Integer.MAX_VALUE), -2);
        }
        Due.due("as it was", x.read(0, 1), 7);
        Due.due("no longer", x.read(0, 2), WhoSitsBy.NO);
    }

    private static void promise31Size() {
        Due.words(31, "SIZE (-14): a size below 0.");
        WhoSitsBy x = new WhoSitsBy();
        x.tape(0, 3, 2);
        x.item(0, 1, 7);
        for (int sort = 0; sort < 5; sort++) {
            Due.due("n -1 of sort " + sort, x.tape(0, sort, -1), -14);
            Due.due("n far below of sort " + sort, x.tape(0, sort, Integer.MIN_VALUE), -14);
        }
        Due.due("as it was", x.read(0, 1), 7);
        Due.words(31, "BAD: sort, n above 60; SIZE.");
        Due.due("a tape of nothing", x.tape(1, 0, -1), -14);
        Due.due("holds nothing still", x.item(1, 0, 1), -11);
    }

    private static void promise31FirstNamed() {
        Due.words(31, "the first that a call's words name");
        WhoSitsBy x = new WhoSitsBy();
        Due.due("tape ahead of sort", x.tape(6, 9, 99), -1);
        Due.due("tape ahead of n above 60", x.tape(6, 0, 61), -1);
        Due.due("tape ahead of size", x.tape(-1, 0, -1), -1);
        Due.due("sort ahead of size", x.tape(0, 5, -1), -2);
        Due.due("sort below ahead of size", x.tape(0, -2, -1), -2);
    }

    private static void promise32Item() {
        Due.words(32, "Item i of a TAPE becomes v");
        WhoSitsBy x = new WhoSitsBy();
        x.tape(5, 2, 3);
        Due.due("first", x.item(5, 0, 11), 1);
        Due.due("last", x.item(5, 2, 33), 1);
        Due.due("read first", x.read(5, 0), 11);
        Due.due("read in between", x.read(5, 1), 0);
        Due.due("read last", x.read(5, 2), 33);
        Due.due("once more", x.item(5, 0, -2), 1);
        Due.due("read once more", x.read(5, 0), -2);
    }

    private static void promise32Bits() {
        Due.words(32, "(its lowest bits, as many as an item has; booleans: whether v is not 0)");
        WhoSitsBy x = new WhoSitsBy();
        long[] told = {127, 128, -128, -129, 200, 255, 256, 32767, 32768, -32768, -32769, 65535, 65536, 70000,
            Integer.MAX_VALUE, Integer.MAX_VALUE + 1L, Integer.MIN_VALUE, Integer.MIN_VALUE - 1L, 1L << 32,
            9999999999L, Long.MAX_VALUE, Long.MIN_VALUE, -1, 0};
        for (int sort = 0; sort < 4; sort++) {
            x.tape(sort, sort, 1);
            for (long v : told) {
                long[] kept = {(byte) v, (short) v, (int) v, v};
                Due.due("item of sort " + sort, x.item(sort, 0, v), 1);
                Due.due(v + " in sort " + sort, x.read(sort, 0), kept[sort]);
            }
        }
        x.item(0, 0, 200);
        Due.due("200 as a byte", x.read(0, 0), -56);
        x.item(1, 0, 70000);
        Due.due("70000 as a short", x.read(1, 0), 4464);
        x.item(2, 0, 9999999999L);
        Due.due("9999999999 as an int", x.read(2, 0), 1410065407);
    }

    private static void promise32Booleans() {
        Due.words(32, "booleans: whether v is not 0");
        WhoSitsBy x = new WhoSitsBy();
        x.tape(0, 4, 1);
        long[] told = {1, 2, -1, 256, 1L << 32, Long.MIN_VALUE, Long.MAX_VALUE};
        for (long v : told) {
            x.item(0, 0, v);
            Due.due("of " + v, x.read(0, 0), 1);
            x.item(0, 0, 0);
            Due.due("of 0", x.read(0, 0), 0);
        }
    }

    private static void promise32None() {
        Due.words(32, "NONE; NOTHING; PLACE.");
        WhoSitsBy x = new WhoSitsBy();
        Due.due("tape 6", x.item(6, 0, 1), -1);
        for (int tape : FAR) {
            Due.due("tape " + tape, x.item(tape, 0, 1), -1);
            Due.due("tape " + tape + ", place -1", x.item(tape, -1, 1), -1);
        }
    }

    private static void promise32Nothing() {
        Due.words(32, "NOTHING (-11): nothing is there");
        WhoSitsBy x = new WhoSitsBy();
        Due.due("nothing", x.item(0, 0, 1), -11);
        Due.due("nothing ahead of place -1", x.item(0, -1, 1), -11);
        Due.due("nothing ahead of place 60", x.item(0, 60, 1), -11);
    }

    private static void promise32Place() {
        Due.words(32, "PLACE (-13): no such place");
        WhoSitsBy x = new WhoSitsBy();
        x.tape(5, 2, 3);
        Due.due("place 3", x.item(5, 3, 1), -13);
        for (int i : FAR) {
            Due.due("place " + i, x.item(5, i, 1), -13);
        }
        for (int i = 0; i < 3; i++) {
            Due.due("none became 1, " + i, x.read(5, i), 0);
        }
        x.tape(5, 2, 60);
        Due.due("place 59", x.item(5, 59, 1), 1);
        Due.due("place 60", x.item(5, 60, 1), -13);
        x.tape(5, 2, 0);
        Due.due("place 0 of none", x.item(5, 0, 1), -13);
    }

    private static void promise33Read() {
        Due.words(33, "Item i of a TAPE.");
        WhoSitsBy x = new WhoSitsBy();
        x.tape(0, 3, 2);
        x.item(0, 1, -5);
        Due.due("item 0", x.read(0, 0), 0);
        Due.due("item 1", x.read(0, 1), -5);
        x.item(0, 1, Long.MIN_VALUE);
        Due.due("the least of all", x.read(0, 1), Long.MIN_VALUE);
    }

    private static void promise33No() {
        Due.words(33, "NO: no such TAPE, nothing there, no such place.");
        WhoSitsBy x = new WhoSitsBy();
        x.tape(0, 3, 2);
        Due.due("tape 6", x.read(6, 0), WhoSitsBy.NO);
        Due.due("nothing", x.read(1, 0), WhoSitsBy.NO);
        Due.due("item 2", x.read(0, 2), WhoSitsBy.NO);
        for (int n : FAR) {
            Due.due("tape " + n, x.read(n, 0), WhoSitsBy.NO);
            Due.due("item " + n, x.read(0, n), WhoSitsBy.NO);
            Due.due("item " + n + " of nothing", x.read(1, n), WhoSitsBy.NO);
        }
    }

    private static void row(String what, WhoSitsBy x, int tape, long... items) {
        for (int i = 0; i < items.length; i++) {
            Due.due(what + ", item " + i, x.read(tape, i), items[i]);
        }
    }

    private static WhoSitsBy fiveAndThree() {
        WhoSitsBy x = new WhoSitsBy();
        x.tape(0, 2, 5);
        x.tape(1, 2, 3);
        x.tape(2, 3, 3);
        for (int i = 0; i < 5; i++) {
            x.item(0, i, i + 1);
        }
        return x;
    }

    private static void promise34Shift() {
        Due.words(34, "come to another one (or the same) from j on, as they all were before: n");
        WhoSitsBy x = fiveAndThree();
        Due.due("to another", x.shift(0, 3, 1, 1, 2), 2);
        row("to another", x, 1, 0, 4, 5);
        row("as before", x, 0, 1, 2, 3, 4, 5);
        Due.due("up in the same", x.shift(0, 0, 0, 1, 4), 4);
        row("up in the same", x, 0, 1, 1, 2, 3, 4);
        Due.due("down in the same", x.shift(0, 2, 0, 0, 3), 3);
        row("down in the same", x, 0, 2, 3, 4, 3, 4);
        Due.due("to where they are", x.shift(0, 1, 0, 1, 4), 4);
        row("to where they are", x, 0, 2, 3, 4, 3, 4);
    }

    private static void promise34Ends() {
        Due.words(34, "or beyond either's end");
        WhoSitsBy x = fiveAndThree();
        Due.due("all of the one", x.shift(1, 0, 0, 2, 3), 3);
        row("all of the one", x, 0, 1, 2, 0, 0, 0);
        Due.due("none, from end to end", x.shift(0, 5, 1, 3, 0), 0);
        Due.due("none, from the first", x.shift(0, 0, 1, 0, 0), 0);
        row("none", x, 1, 0, 0, 0);
        x.tape(3, 2, 0);
        Due.due("none of none", x.shift(3, 0, 0, 5, 0), 0);
        Due.due("one of none", x.shift(3, 0, 0, 0, 1), -13);
        x.tape(4, 0, 60);
        x.tape(5, 0, 60);
        x.item(4, 59, 9);
        Due.due("sixty", x.shift(4, 0, 5, 0, 60), 60);
        Due.due("the last of sixty", x.read(5, 59), 9);
        Due.due("sixty-one", x.shift(4, 0, 5, 0, 61), -13);
    }

    private static void promise34Sorts() {
        Due.words(34, "a row of 0 bytes, 1 shorts, 2 ints, 3 longs, 4 booleans (items 0, 1)");
        WhoSitsBy x = new WhoSitsBy();
        for (int sort = 0; sort < 5; sort++) {
            x.tape(0, sort, 2);
            x.tape(1, sort, 2);
            x.item(0, 0, 1);
            x.item(0, 1, -1);
            Due.due("sort " + sort, x.shift(0, 0, 1, 0, 2), 2);
            row("sort " + sort, x, 1, 1, sort == 4 ? 1 : -1);
        }
    }

    private static void promise34None() {
        Due.words(34, "NONE: tapes");
        WhoSitsBy x = fiveAndThree();
        Due.due("tape 6", x.shift(6, 0, 0, 0, 1), -1);
        Due.due("other 6", x.shift(0, 0, 6, 0, 1), -1);
        for (int tape : FAR) {
            Due.due("tape " + tape, x.shift(tape, 0, 0, 0, 1), -1);
            Due.due("other " + tape, x.shift(0, 0, tape, 0, 1), -1);
        }
        Due.words(34, "the first that a call's words name");
        Due.due("other 6, the one holds nothing", x.shift(3, 0, 6, 0, 1), -1);
        Due.due("tape 6, place -1", x.shift(6, -1, 0, -1, -1), -1);
    }

    private static void promise34Nothing() {
        Due.words(34, "NOTHING; CAST: of unlike sorts");
        WhoSitsBy x = fiveAndThree();
        Due.due("the one", x.shift(3, 0, 0, 0, 1), -11);
        Due.due("the other", x.shift(0, 0, 3, 0, 1), -11);
        Due.due("both", x.shift(3, 0, 4, 0, 1), -11);
        Due.due("the same", x.shift(3, 0, 3, 0, 0), -11);
        Due.words(34, "the first that a call's words name");
        Due.due("the other, n -1", x.shift(0, 0, 3, 0, -1), -11);
        Due.due("the one, i -1", x.shift(3, -1, 0, 0, 1), -11);
    }

    private static void promise34Cast() {
        Due.words(34, "CAST (-12): another sort or KIND");
        WhoSitsBy x = new WhoSitsBy();
        for (int sort = 0; sort < 5; sort++) {
            x.tape(sort, sort, 2);
            x.item(sort, 0, 1);
        }
        for (int one = 0; one < 5; one++) {
            for (int other = 0; other < 5; other++) {
                Due.due(one + " to " + other, x.shift(one, 0, other, 1, 1), one == other ? 1 : -12);
                Due.due(one + " to " + other + ", none", x.shift(one, 0, other, 1, 0), one == other ? 0 : -12);
            }
        }
        Due.words(34, "the first that a call's words name");
        Due.due("unlike ahead of i -1", x.shift(0, -1, 2, 0, 1), -12);
        Due.due("unlike ahead of n 3", x.shift(0, 0, 2, 0, 3), -12);
    }

    private static void promise34Place() {
        Due.words(34, "PLACE: n, i or j is below 0, or beyond either's end.");
        WhoSitsBy x = fiveAndThree();
        int most = Integer.MAX_VALUE;
        int least = Integer.MIN_VALUE;
        int[][] wrong = {{0, 0, -1}, {-1, 0, 1}, {0, -1, 1}, {-1, 0, 0}, {0, -1, 0}, {3, 0, 3}, {0, 1, 3}, {6, 0, 0},
            {0, 4, 0}, {5, 0, 1}, {0, 3, 1}, {0, 0, 4}, {1, 1, most}, {most, 0, 1}, {0, most, 1}, {most, most, most},
            {most, 0, 0}, {least, 0, 1}, {0, least, 1}, {0, 0, least}, {-1, -1, -1}, {1, 1, -1}};
        for (int[] one : wrong) {
            String what = "i " + one[0] + ", j " + one[1] + ", n " + one[2];
            Due.due(what, x.shift(0, one[0], 1, one[1], one[2]), -13);
        }
        row("as they were", x, 0, 1, 2, 3, 4, 5);
        row("as they were", x, 1, 0, 0, 0);
    }
}
