/** Promises 17 to 23: slips, months, what is next, lots. */
public final class LotsTest {
    public static void main(String[] args) {
        promise17Named();
        promise18Alone();
        promise18Closed();
        promise19Month();
        promise20Lacks();
        promise21Next();
        promise21Refused();
        promise22Mean();
        promise23Both();
        Due.end("LotsTest");
    }

    private static void promise17Named() {
        WhoSitsBy x = Due.withPupils(4);
        Due.due("by nobody", x.named(0), 0);
        x.name(1, 0);
        x.name(2, 0);
        x.name(0, 3);
        Due.due("by two", x.named(0), 2);
        Due.due("by one", x.named(3), 1);
        x.name(2, -1);
        Due.due("by one of them", x.named(0), 1);
        Due.due("of 4", x.named(4), -1);
        Due.due("of -1", x.named(-1), -1);
    }

    private static void promise18Alone() {
        Due.due("nobody at all", new WhoSitsBy().slips(0), 0);
        WhoSitsBy x = Due.withPupils(8);
        Due.due("all", x.slips(0), 255);
        x.name(0, 7);
        x.name(1, 3);
        Due.due("all but 3 and 7", x.slips(0), 255 - 8 - 128);
        Due.due("what -1", x.slips(-1), -1);
        Due.due("what 2", x.slips(2), -1);
    }

    private static WhoSitsBy naming(int... others) {
        WhoSitsBy x = Due.withPupils(others.length);
        for (int p = 0; p < others.length; p++) {
            x.name(p, others[p]);
        }
        return x;
    }

    private static void promise18Closed() {
        Due.due("nobody", new WhoSitsBy().slips(1), -5);
        Due.due("no slips", naming(-1, -1).slips(1), -5);
        Due.due("a row of three", naming(1, 2, -1).slips(1), -5);
        Due.due("two", naming(1, 0, -1).slips(1), 3);
        Due.due("one from without", naming(1, 0, 0).slips(1), 7);
        Due.due("two of two: the least bits", naming(2, 3, 0, 1).slips(1), 5);
        Due.due("three and two: the fewest", naming(1, 2, 0, 4, 3).slips(1), 24);
        Due.due("four, and two with two behind", naming(1, 2, 3, 0, 5, 4, 4, 6).slips(1), 15);
        Due.due("all eight", naming(1, 2, 3, 4, 5, 6, 7, 0).slips(1), 255);
        Due.due("0 from without", naming(1, 2, 1).slips(1), 7);
        Due.due("one names nobody", naming(1, 0, -1, 2).slips(1), 3);
    }

    private static void promise19Month() {
        WhoSitsBy x = Due.withPupils(5);
        Due.due("two pairs", x.month(), 2);
        Due.due("the same again", x.month(), 0);
        x.sit(4, 1);
        Due.due("0 by 4", x.month(), 1);
        x.sit(0, 3);
        Due.due("0 by 2; 3 by 4", x.month(), 2);
        Due.due("put down", x.count(2), 5);
        x.sit(1, 6);
        x.sit(3, 7);
        Due.due("1 by 3 at the last desk", x.month(), 1);
        Due.due("nobody", new WhoSitsBy().month(), 0);
    }

    private static void promise20Lacks() {
        WhoSitsBy x = Due.withPupils(3);
        Due.due("three pairs", x.lacks(0), 3);
        Due.due("not all", x.lacks(1), 0);
        x.month();
        Due.due("two left", x.lacks(0), 2);
        x.sit(2, 1);
        x.month();
        x.sit(0, 2);
        x.month();
        Due.due("none left", x.lacks(0), 0);
        Due.due("all", x.lacks(1), 1);
        x.pupil(0, 0, 0, 0, 0);
        Due.due("a new one has three", x.lacks(0), 3);
        Due.due("what -1", x.lacks(-1), -1);
        Due.due("what 2", x.lacks(2), -1);
        Due.due("one alone", Due.withPupils(1).lacks(1), 1);
        Due.due("eight", Due.withPupils(8).lacks(0), 28);
    }

    private static void promise21Next() {
        WhoSitsBy x = new WhoSitsBy();
        Due.due("nobody", x.next(-1), 0);
        x = Due.withPupils(3);
        rows("first", x, 1, 0, 1, 2);
        x.month();
        rows("0 by 2", x, 1, 0, 2, 1);
        x.sit(2, 1);
        x.month();
        rows("1 by 2", x, 1, 0, 2, 3);
        x.sit(0, 2);
        x.month();
        rows("all put down", x, 0, 0, 1, 2);
        x = Due.withPupils(6);
        rows("six", x, 3, 0, 1, 2, 3, 4, 5);
        x.month();
        rows("six, another month", x, 3, 0, 2, 1, 4, 3, 5);
        Due.due("it changes nothing", x.of(1, 7), 1);
    }

    private static void rows(String what, WhoSitsBy x, int pairs, int... seats) {
        Due.due(what + ": pairs", x.next(-1), pairs);
        for (int p = 0; p < seats.length; p++) {
            Due.due(what + ": seat of " + p, x.next(p), seats[p]);
        }
    }

    private static void promise21Refused() {
        WhoSitsBy x = Due.withPupils(6);
        Due.due("k -2", x.next(-2), -100001);
        Due.due("k 6", x.next(6), -100001);
        x.pupil(0, 0, 0, 0, 0);
        Due.due("seven", x.next(-1), -9);
        Due.due("seven, k 6", x.next(6), -9);
        Due.due("seven, k 7", x.next(7), -100001);
        Due.due("k 0 of nobody", new WhoSitsBy().next(0), -100001);
    }

    private static void mean(String what, WhoSitsBy x, long above, long below) {
        Due.due(what + ", above", x.mean(0), above);
        Due.due(what + ", below", x.mean(1), below);
    }

    private static void promise22Mean() {
        mean("nobody", new WhoSitsBy(), 0, 1);
        WhoSitsBy x = Due.withPupils(2);
        mean("no room", x, 0, 1);
        Due.room(x, "learn 1 r=0&a=0");
        mean("one by fourteen", x, 1, 14);
        Due.room(x, "learn 2 a=0");
        mean("4 by 14", x, 2, 7);
        Due.room(x, "loud 7 r=1");
        mean("less 14 by 14", x, -1, 1);
        Due.room(x, "loud 7 a=1&r=1");
        mean("less 7 by 14", x, -1, 2);
        x.sit(0, 7);
        mean("wherever they sit", x, -1, 2);
        x = new WhoSitsBy();
        x.pupil(5, 9, 2, 0, 0);
        x.pupil(0, 0, 0, 0, 0);
        mean("a carrier is as a talker", x, -2, 7);
        x.pupil(0, 0, 0, 0, 0);
        mean("with others, too", x, -4, 7);
        Due.due("part -1", x.mean(-1), WhoSitsBy.NO);
        Due.due("part 2", x.mean(2), WhoSitsBy.NO);
    }

    private static void both(WhoSitsBy x, int one, int other, long above, long below) {
        Due.due("both " + one + ", " + other, x.both(one, other, 0), above);
        Due.due("both " + one + ", " + other + ", below", x.both(one, other, 1), below);
    }

    private static void promise23Both() {
        WhoSitsBy x = Due.withPupils(4);
        both(x, 1, 23, 1, 35);
        both(x, 32, 10, 1, 35);
        both(x, 1, 1, 1, 7);
        both(x, 1, 10, 1, 7);
        both(x, 1, 12, 0, 1);
        both(x, 1, 20, 0, 1);
        both(x, 13, 31, 1, 7);
        both(x, 4, 1, WhoSitsBy.NO, WhoSitsBy.NO);
        both(x, 1, 4, WhoSitsBy.NO, WhoSitsBy.NO);
        both(x, 40, 1, WhoSitsBy.NO, WhoSitsBy.NO);
        both(x, 11, 1, WhoSitsBy.NO, WhoSitsBy.NO);
        both(x, 1, 0, WhoSitsBy.NO, WhoSitsBy.NO);
        both(x, -1, 1, WhoSitsBy.NO, WhoSitsBy.NO);
        both(x, 1, -10, WhoSitsBy.NO, WhoSitsBy.NO);
        both(x, 1, 123, WhoSitsBy.NO, WhoSitsBy.NO);
        Due.due("part 2", x.both(1, 23, 2), WhoSitsBy.NO);
        Due.due("part -1", x.both(1, 23, -1), WhoSitsBy.NO);
    }
}
