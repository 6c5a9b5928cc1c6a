/** Promises 31 to 34: tapes, their items, reading and shifting them. */
public final class TapesTest {
    public static void main(String[] args) {
        promise31Tape();
        promise32Item();
        promise32Bits();
        promise33Read();
        promise34Shift();
        promise34Refused();
        Due.end("TapesTest");
    }

    private static void promise31Tape() {
        WhoSitsBy x = new WhoSitsBy();
        Due.due("tape -1", x.tape(-1, 0, 1), -1);
        Due.due("tape 6", x.tape(6, 0, 1), -1);
        Due.due("none ahead of bad", x.tape(6, 9, 99), -1);
        Due.due("sort -2", x.tape(0, -2, 1), -2);
        Due.due("sort 5", x.tape(0, 5, 1), -2);
        Due.due("n 61", x.tape(0, 0, 61), -2);
        Due.due("n -1", x.tape(0, 0, -1), -14);
        Due.due("bad ahead of size", x.tape(0, 5, -1), -2);
        Due.due("nothing yet", x.item(0, 0, 1), -11);
        for (int sort = 0; sort < 5; sort++) {
            Due.due("sort " + sort, x.tape(sort, sort, 60), 1);
            Due.due("its last item", x.read(sort, 59), 0);
            Due.due("beyond it", x.read(sort, 60), WhoSitsBy.NO);
        }
        Due.due("n 0", x.tape(5, 3, 0), 1);
        Due.due("no place", x.item(5, 0, 1), -13);
        x.item(0, 0, 6);
        x.item(0, 2, 7);
        Due.due("refused", x.tape(0, 1, -1), -14);
        Due.due("changes nothing", x.read(0, 2), 7);
        Due.due("anew", x.tape(0, 0, 3), 1);
        Due.due("all 0", x.read(0, 2), 0);
        Due.due("all 0, the first", x.read(0, 0), 0);
        Due.due("shorter", x.read(0, 3), WhoSitsBy.NO);
        Due.due("longer again", x.tape(0, 0, 9), 1);
        Due.due("all 0 again", x.read(0, 3), 0);
        Due.due("nothing, n 99", x.tape(0, -1, 99), 1);
        Due.due("nothing, n -9", x.tape(1, -1, -9), 1);
        Due.due("nothing there", x.read(0, 0), WhoSitsBy.NO);
        Due.due("nothing for an item", x.item(1, 0, 0), -11);
    }

    private static void promise32Item() {
        WhoSitsBy x = new WhoSitsBy();
        x.tape(5, 2, 3);
        Due.due("tape -1", x.item(-1, 0, 1), -1);
        Due.due("tape 6", x.item(6, 0, 1), -1);
        Due.due("nothing", x.item(0, 0, 1), -11);
        Due.due("nothing ahead of place", x.item(0, -1, 1), -11);
        Due.due("place -1", x.item(5, -1, 1), -13);
        Due.due("place 3", x.item(5, 3, 1), -13);
        Due.due("place far", x.item(5, Integer.MAX_VALUE, 1), -13);
        Due.due("first", x.item(5, 0, 11), 1);
        Due.due("last", x.item(5, 2, 33), 1);
        Due.due("read first", x.read(5, 0), 11);
        Due.due("read in between", x.read(5, 1), 0);
        Due.due("read last", x.read(5, 2), 33);
    }

    private static void promise32Bits() {
        WhoSitsBy x = new WhoSitsBy();
        long[] told = {200, -129, 70000, 9999999999L, Long.MIN_VALUE, 256, 65536, 1L << 32, -1, 0};
        for (int sort = 0; sort < 5; sort++) {
            x.tape(sort, sort, 1);
            for (long v : told) {
                long[] kept = {(byte) v, (short) v, (int) v, v, v != 0 ? 1 : 0};
                Due.due("item of sort " + sort, x.item(sort, 0, v), 1);
                Due.due(v + " in sort " + sort, x.read(sort, 0), kept[sort]);
            }
        }
        x.item(0, 0, 200);
        Due.due("200 as a byte", x.read(0, 0), -56);
        x.item(4, 0, 256);
        Due.due("256 as a boolean", x.read(4, 0), 1);
    }

    private static void promise33Read() {
        WhoSitsBy x = new WhoSitsBy();
        Due.due("nothing", x.read(0, 0), WhoSitsBy.NO);
        x.tape(0, 3, 2);
        x.item(0, 1, -5);
        Due.due("item 1", x.read(0, 1), -5);
        Due.due("item 2", x.read(0, 2), WhoSitsBy.NO);
        Due.due("item -1", x.read(0, -1), WhoSitsBy.NO);
        Due.due("tape 6", x.read(6, 0), WhoSitsBy.NO);
        Due.due("tape -1", x.read(-1, 0), WhoSitsBy.NO);
    }

    private static void row(String what, WhoSitsBy x, int tape, long... items) {
        for (int i = 0; i < items.length; i++) {
            Due.due(what + ", item " + i, x.read(tape, i), items[i]);
        }
    }

    private static void promise34Shift() {
        WhoSitsBy x = new WhoSitsBy();
        x.tape(0, 2, 5);
        x.tape(1, 2, 3);
        for (int i = 0; i < 5; i++) {
            x.item(0, i, i + 1);
        }
        Due.due("to another", x.shift(0, 3, 1, 1, 2), 2);
        row("to another", x, 1, 0, 4, 5);
        row("as before", x, 0, 1, 2, 3, 4, 5);
        Due.due("up in the same", x.shift(0, 0, 0, 1, 4), 4);
        row("up in the same", x, 0, 1, 1, 2, 3, 4);
        Due.due("down in the same", x.shift(0, 2, 0, 0, 3), 3);
        row("down in the same", x, 0, 2, 3, 4, 3, 4);
        Due.due("none", x.shift(0, 5, 1, 3, 0), 0);
        Due.due("all", x.shift(1, 0, 0, 2, 3), 3);
        row("all", x, 0, 2, 3, 0, 4, 5);
    }

    private static void promise34Refused() {
        WhoSitsBy x = new WhoSitsBy();
        x.tape(0, 2, 5);
        x.tape(1, 2, 3);
        x.tape(2, 3, 3);
        Due.due("tape 6", x.shift(6, 0, 0, 0, 1), -1);
        Due.due("other -1", x.shift(0, 0, -1, 0, 1), -1);
        Due.due("nothing", x.shift(3, 0, 0, 0, 1), -11);
        Due.due("other is nothing", x.shift(0, 0, 3, 0, -1), -11);
        Due.due("unlike", x.shift(0, 0, 2, 0, 1), -12);
        Due.due("unlike ahead of place", x.shift(0, -1, 2, 0, 1), -12);
        Due.due("n -1", x.shift(0, 0, 1, 0, -1), -13);
        Due.due("i -1", x.shift(0, -1, 1, 0, 1), -13);
        Due.due("j -1", x.shift(0, 0, 1, -1, 1), -13);
        Due.due("beyond the one's end", x.shift(0, 3, 1, 0, 3), -13);
        Due.due("beyond the other's end", x.shift(0, 0, 1, 1, 3), -13);
        Due.due("i beyond, none", x.shift(0, 6, 1, 0, 0), -13);
        Due.due("j beyond, none", x.shift(0, 0, 1, 4, 0), -13);
        Due.due("far n", x.shift(0, 1, 1, 1, Integer.MAX_VALUE), -13);
        Due.due("far i", x.shift(0, Integer.MAX_VALUE, 1, 0, 1), -13);
    }
}
