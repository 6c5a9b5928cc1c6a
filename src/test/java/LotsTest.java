/** Promises 17 to 23: slips, months, what is next, lots. */
public final class LotsTest {
    private static final int[] FAR = {-1, Integer.MIN_VALUE, Integer.MAX_VALUE};

    public static void main(String[] args) {
        promise17Named();
        promise17None();
        promise18Alone();
        promise18Closed();
        promise18Two();
        promise18Fewest();
        promise18Nothing();
        promise18None();
        promise19Month();
        promise19Nobody();
        promise20Lacks();
        promise20All();
        promise20None();
        promise21Next();
        promise21First();
        promise21Most();
        promise21None();
        promise22Mean();
        promise22Lowest();
        promise22Carriers();
        promise22Part();
        promise23Both();
        promise23One();
        promise23Pairs();
        promise23Part();
        Due.end("LotsTest");
    }

    private static WhoSitsBy naming(int... others) {
        WhoSitsBy x = Due.withPupils(others.length);
        for (int p = 0; p < others.length; p++) {
            x.name(p, others[p]);
        }
        return x;
    }

    private static void promise17Named() {
        Due.words(17, "NAMED: how many name one.");
        WhoSitsBy x = Due.withPupils(4);
        Due.due("by nobody", x.named(0), 0);
        x.name(1, 0);
        x.name(2, 0);
        x.name(0, 3);
        Due.due("by two", x.named(0), 2);
        Due.due("by one", x.named(3), 1);
        Due.due("who names is not named", x.named(1), 0);
        x.name(2, -1);
        Due.due("by one of them", x.named(0), 1);
        Due.due("by all others", naming(7, 7, 7, 7, 7, 7, 7, -1).named(7), 7);
    }

    private static void promise17None() {
        Due.words(17, "NAMED (of a PUPIL). NONE.");
        WhoSitsBy x = Due.withPupils(4);
        Due.due("of 4", x.named(4), -1);
        for (int n : FAR) {
            Due.due("of " + n, x.named(n), -1);
        }
        Due.due("of nobody", new WhoSitsBy().named(0), -1);
    }

    private static void promise18Alone() {
        Due.words(18, "ALONE: PUPILS that nobody names, as bits.");
        Due.due("nobody at all", new WhoSitsBy().slips(0), 0);
        WhoSitsBy x = Due.withPupils(8);
        Due.due("all", x.slips(0), 255);
        x.name(0, 7);
        x.name(1, 3);
        Due.due("all but 3 and 7", x.slips(0), 255 - 8 - 128);
        x.name(1, 7);
        Due.due("all but 7", x.slips(0), 127);
        Due.due("none of eight", naming(1, 2, 3, 4, 5, 6, 7, 0).slips(0), 0);
        Due.due("one", Due.withPupils(1).slips(0), 1);
    }

    private static void promise18Closed() {
        Due.words(18, "CLOSED: of all sets of 2 or more PUPILS each of whom names one of the set");
        Due.due("two", naming(1, 0, -1).slips(1), 3);
        Due.due("one names nobody", naming(1, 0, -1, 2).slips(1), 3);
        Due.due("a third is named by one of two", naming(1, 0, -1, -1).slips(1), 3);
        Due.due("all eight", naming(1, 2, 3, 4, 5, 6, 7, 0).slips(1), 255);
        Due.words(18, "while nobody else names one of it");
        Due.due("one from without", naming(1, 0, 0).slips(1), 7);
        Due.due("one behind that", naming(1, 0, 0, 2).slips(1), 15);
        Due.due("0 from without", naming(1, 2, 1).slips(1), 7);
        Due.due("eight behind one another", naming(1, 0, 1, 2, 3, 4, 5, 6).slips(1), 255);
    }

    private static void promise18Two() {
        Due.words(18, "of all sets of 2 or more PUPILS");
        Due.due("nobody", new WhoSitsBy().slips(1), -5);
        Due.due("one", Due.withPupils(1).slips(1), -5);
        Due.due("two who name nobody", naming(-1, -1).slips(1), -5);
        Due.due("two of whom one names", naming(1, -1).slips(1), -5);
        Due.due("two who name one another", naming(1, 0).slips(1), 3);
    }

    private static void promise18Fewest() {
        Due.words(18, "that of the fewest; of several the least as bits");
        Due.due("three and two", naming(1, 2, 0, 4, 3).slips(1), 24);
        Due.due("two and three", naming(1, 0, 3, 4, 2).slips(1), 3);
        Due.due("two of two", naming(2, 3, 0, 1).slips(1), 5);
        Due.due("two of two, crossed", naming(3, 2, 1, 0).slips(1), 6);
        Due.due("four, and two with two behind", naming(1, 2, 3, 0, 5, 4, 4, 6).slips(1), 15);
        Due.due("four of two", naming(7, 6, 5, 4, 3, 2, 1, 0).slips(1), 24);
    }

    private static void promise18Nothing() {
        Due.words(18, "(-5: there is none)");
        Due.due("a row of three", naming(1, 2, -1).slips(1), -5);
        Due.due("all name one who names nobody", naming(-1, 0, 0, 0, 0, 0, 0, 0).slips(1), -5);
        WhoSitsBy x = naming(1, 0);
        x.name(0, -1);
        Due.due("not any more", x.slips(1), -5);
    }

    private static void promise18None() {
        Due.words(18, "ALONE (what 0), CLOSED (1: the set; -5), as bits. NONE.");
        WhoSitsBy x = naming(1, 0, -1);
        Due.due("alone", x.slips(0), 4);
        Due.due("closed", x.slips(1), 3);
        Due.due("what 2", x.slips(2), -1);
        for (int what : FAR) {
            Due.due("what " + what, x.slips(what), -1);
        }
    }

    private static void promise19Month() {
        Due.words(19, "MONTH: how many pairs are put down that were not.");
        WhoSitsBy x = Due.withPupils(5);
        Due.due("two pairs", x.month(), 2);
        Due.due("the same again", x.month(), 0);
        x.sit(1, 0);
        Due.due("the same, the other way round", x.month(), 0);
        x.sit(1, 1);
        x.sit(4, 1);
        Due.due("0 by 4", x.month(), 1);
        x.sit(0, 3);
        Due.due("0 by 2; 3 by 4", x.month(), 2);
        Due.due("put down", x.count(2), 5);
        x.sit(1, 6);
        x.sit(3, 7);
        Due.due("1 by 3 at the last desk", x.month(), 1);
        Due.due("all in all", x.count(2), 6);
        Due.due("four desks", Due.withPupils(8).month(), 4);
    }

    private static void promise19Nobody() {
        Due.words(19, "by each MONTH all pairs of PUPILS who are NEIGHBOURS then are put down");
        Due.due("nobody", new WhoSitsBy().month(), 0);
        WhoSitsBy x = Due.withPupils(1);
        Due.due("one alone", x.month(), 0);
        Due.due("none put down", x.count(2), 0);
        x.pupil(0, 0, 0, 0, 0);
        x.sit(1, 7);
        Due.due("two, alone", x.month(), 0);
        Due.due("still to come", x.lacks(0), 1);
    }

    private static void promise20Lacks() {
        Due.words(20, "LACKS: how many pairs of PUPILS have not been put down yet.");
        int[] pairs = {0, 0, 1, 3, 6, 10, 15, 21, 28};
        for (int n = 0; n <= 8; n++) {
            Due.due("pairs of " + n, Due.withPupils(n).lacks(0), pairs[n]);
        }
        WhoSitsBy x = Due.withPupils(3);
        x.month();
        Due.due("two left", x.lacks(0), 2);
        x.month();
        Due.due("two left still", x.lacks(0), 2);
    }

    private static void promise20All() {
        Due.words(20, "LACKS (what 0); 1 whether all pairs were put down.");
        Due.due("nobody", new WhoSitsBy().lacks(1), 1);
        Due.due("one alone", Due.withPupils(1).lacks(1), 1);
        Due.due("two", Due.withPupils(2).lacks(1), 0);
        WhoSitsBy x = Due.withPupils(3);
        x.month();
        x.sit(2, 1);
        x.month();
        Due.due("one left", x.lacks(0), 1);
        Due.due("not all", x.lacks(1), 0);
        x.sit(0, 2);
        x.month();
        Due.due("none left", x.lacks(0), 0);
        Due.due("all", x.lacks(1), 1);
        x.pupil(0, 0, 0, 0, 0);
        Due.due("a new one has three", x.lacks(0), 3);
        Due.due("not all any more", x.lacks(1), 0);
    }

    private static void promise20None() {
        Due.words(20, "1 whether all pairs were put down. NONE.");
        WhoSitsBy x = Due.withPupils(2);
        Due.due("what 2", x.lacks(2), -1);
        for (int what : FAR) {
            Due.due("what " + what, x.lacks(what), -1);
        }
    }

    private static void rows(String what, WhoSitsBy x, int pairs, int... seats) {
        Due.due(what + ": pairs", x.next(-1), pairs);
        for (int p = 0; p < seats.length; p++) {
            Due.due(what + ": seat of " + p, x.next(p), seats[p]);
        }
    }

    private static void promise21Next() {
        Due.words(21, "with which the most pairs that were not put down are NEIGHBOURS");
        WhoSitsBy x = new WhoSitsBy();
        rows("nobody", x, 0);
        rows("one", Due.withPupils(1), 0, 0);
        x = Due.withPupils(3);
        rows("none put down", x, 1, 0, 1, 2);
        x.month();
        rows("0 by 2", x, 1, 0, 2, 1);
        x.sit(2, 1);
        x.month();
        rows("1 by 2", x, 1, 0, 2, 3);
        x.sit(0, 2);
        x.month();
        rows("all put down", x, 0, 0, 1, 2);
        Due.words(21, "NEXT: k -1 how many pairs, else the SEAT of PUPIL k.");
        x.pupil(0, 0, 0, 0, 0);
        Due.due("k -1", x.next(-1), 1);
        Due.due("k 0", x.next(0), 0);
        Due.due("k 3", x.next(3), 3);
    }

    private static void promise21First() {
        Due.words(21, "of several the first as a row");
        WhoSitsBy x = Due.withPupils(6);
        rows("six", x, 3, 0, 1, 2, 3, 4, 5);
        x.month();
        rows("six, another month", x, 3, 0, 2, 1, 4, 3, 5);
        Due.due("it changes nothing", x.of(1, 7), 1);
        x.sit(0, 7);
        rows("wherever they sit", x, 3, 0, 2, 1, 4, 3, 5);
    }

    private static void promise21Most() {
        Due.words(21, "(6 PUPILS at most; else -9)");
        WhoSitsBy x = Due.withPupils(6);
        Due.due("six", x.next(5), 5);
        x.pupil(0, 0, 0, 0, 0);
        for (int k = -1; k < 7; k++) {
            Due.due("seven, " + k, x.next(k), -9);
        }
        x.pupil(0, 0, 0, 0, 0);
        Due.due("eight", x.next(7), -9);
    }

    private static void promise21None() {
        Due.words(21, "-100001: NONE: k; -9.");
        WhoSitsBy x = Due.withPupils(6);
        Due.due("k -2", x.next(-2), -100001);
        Due.due("k 6", x.next(6), -100001);
        Due.due("far", x.next(Integer.MAX_VALUE), -100001);
        Due.due("far below", x.next(Integer.MIN_VALUE), -100001);
        Due.due("k 0 of nobody", new WhoSitsBy().next(0), -100001);
        Due.words(21, "the first that a call's words name");
        x.pupil(0, 0, 0, 0, 0);
        Due.due("seven, k 7", x.next(7), -100001);
        Due.due("seven, k -2", x.next(-2), -100001);
    }

    private static void mean(String what, WhoSitsBy x, long above, long below) {
        Due.due(what + ", above", x.mean(0), above);
        Due.due(what + ", below", x.mean(1), below);
    }

    private static void promise22Mean() {
        Due.words(22, "if all SITTINGS of the PUPILS on the eight SEATS are alike likely: MEAN of WORTH of the SITTING");
        mean("nobody", new WhoSitsBy(), 0, 1);
        WhoSitsBy x = Due.withPupils(1);
        Due.room(x, "learn 99 a<9");
        mean("one alone", x, 0, 1);
        x = Due.withPupils(8);
        Due.room(x, "learn 1 a<9");
        mean("eight: each has a neighbour", x, 8, 1);
        x = Due.withPupils(2);
        x.image();
        Due.room(x, "learn 7 a<9");
        x.pupil(0, 0, 0, 0, 0);
        mean("three", x, 6, 1);
        x.undo();
        mean("two, and no room", x, 0, 1);
        Due.room(x, "learn 1 a<9");
        mean("two, and a room", x, 2, 7);
        x = Due.withPupils(7);
        Due.room(x, "learn 1 a<9&r=0");
        mean("seven, half of them in front", x, 3, 1);
        x = Due.withPupils(2);
        Due.room(x, "learn 1 r=0&a=0");
        x.sit(0, 7);
        mean("wherever they sit", x, 1, 14);
        Due.words(22, "MEAN; part 0 above, 1 below the line.");
        Due.due("part 0", x.mean(0), 1);
        Due.due("part 1", x.mean(1), 14);
    }

    private static void promise22Lowest() {
        Due.words(22, "a fraction in lowest terms");
        WhoSitsBy x = Due.withPupils(2);
        mean("no room", x, 0, 1);
        String[] texts = {"learn 1 r=0&a=0", "learn 2 a=0", "learn 7 a=0&r=0", "learn 14 a=0&r=0", "learn 35 a=0&r=1",
            "loud 1 r=0&b=0", "loud 7 r=1", "loud 7 a=1&r=1", "loud 4 a=1", "learn 5 r=0;loud 5 r=1"};
        int[][] due = {{1, 14}, {2, 7}, {1, 2}, {1, 1}, {5, 2}, {-1, 14}, {-1, 1}, {-1, 2}, {-4, 7}, {0, 1}};
        for (int i = 0; i < texts.length; i++) {
            // an object holds six rooms
            x = Due.withPupils(2);
            Due.room(x, texts[i]);
            mean(texts[i], x, due[i][0], due[i][1]);
        }
    }

    private static void promise22Carriers() {
        Due.words(22, "(CARRIERS being as TALKERS there)");
        WhoSitsBy x = new WhoSitsBy();
        x.pupil(5, 9, 2, 0, 0);
        x.pupil(0, 0, 0, 0, 0);
        mean("one and another", x, -2, 7);
        x.pupil(0, 0, 0, 0, 0);
        mean("with others, too", x, -4, 7);
    }

    private static void promise22Part() {
        Due.words(22, "NO: part.");
        WhoSitsBy x = Due.withPupils(2);
        Due.due("part 2", x.mean(2), WhoSitsBy.NO);
        for (int part : FAR) {
            Due.due("part " + part, x.mean(part), WhoSitsBy.NO);
        }
        Due.due("nobody, part 2", new WhoSitsBy().mean(2), WhoSitsBy.NO);
    }

    private static void both(WhoSitsBy x, int one, int other, long above, long below) {
        Due.due("both " + one + ", " + other, x.both(one, other, 0), above);
        Due.due("both " + one + ", " + other + ", below", x.both(one, other, 1), below);
    }

    private static void promise23Both() {
        Due.words(23, "BOTH: how likely two told pairs of PUPILS are NEIGHBOURS at once");
        WhoSitsBy x = Due.withPupils(4);
        both(x, 1, 23, 1, 35);
        both(x, 32, 10, 1, 35);
        both(x, 1, 1, 1, 7);
        both(x, 1, 10, 1, 7);
        both(x, 13, 31, 1, 7);
        both(Due.withPupils(2), 10, 1, 1, 7);
        both(Due.withPupils(8), 76, 54, 1, 35);
    }

    private static void promise23One() {
        Due.words(23, "(0 by 1, if they share just one PUPIL)");
        WhoSitsBy x = Due.withPupils(4);
        both(x, 1, 12, 0, 1);
        both(x, 1, 20, 0, 1);
        both(x, 10, 2, 0, 1);
        both(x, 32, 30, 0, 1);
    }

    private static void promise23Pairs() {
        Due.words(23, "NO: pairs of PUPILS that are not there, or of one; part.");
        WhoSitsBy x = Due.withPupils(4);
        int[] wrong = {4, 40, 14, 43, 100, 101, 123, 0, 11, 22, 33, -1, -10, -12, Integer.MIN_VALUE,
            Integer.MAX_VALUE};
        for (int pair : wrong) {
            both(x, pair, 1, WhoSitsBy.NO, WhoSitsBy.NO);
            both(x, 1, pair, WhoSitsBy.NO, WhoSitsBy.NO);
            both(x, pair, pair, WhoSitsBy.NO, WhoSitsBy.NO);
        }
        both(Due.withPupils(8), 8, 12, WhoSitsBy.NO, WhoSitsBy.NO);
        both(Due.withPupils(8), 80, 12, WhoSitsBy.NO, WhoSitsBy.NO);
        both(Due.withPupils(8), 77, 12, WhoSitsBy.NO, WhoSitsBy.NO);
        both(Due.withPupils(1), 0, 0, WhoSitsBy.NO, WhoSitsBy.NO);
        both(new WhoSitsBy(), 1, 1, WhoSitsBy.NO, WhoSitsBy.NO);
    }

    private static void promise23Part() {
        Due.words(23, "or of one; part.");
        WhoSitsBy x = Due.withPupils(4);
        Due.due("part 2", x.both(1, 23, 2), WhoSitsBy.NO);
        for (int part : FAR) {
            Due.due("part " + part, x.both(1, 23, part), WhoSitsBy.NO);
            Due.due("part " + part + ", sharing one", x.both(1, 12, part), WhoSitsBy.NO);
        }
        Due.due("part 2, sharing one", x.both(1, 12, 2), WhoSitsBy.NO);
    }
}
