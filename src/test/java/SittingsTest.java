/** Promises 10 to 13: what a sitting is worth and breaks, the best swap, the best of all, costs. */
public final class SittingsTest {
    private static final int[] FAR = {Integer.MIN_VALUE, Integer.MAX_VALUE};

    public static void main(String[] args) {
        promise10Worth();
        promise10Alone();
        promise10Carrier();
        promise10Hush();
        promise10Barred();
        promise10Front();
        promise10Rows();
        promise10None();
        promise11Swap();
        promise11Better();
        promise11Order();
        promise11Least();
        promise11Free();
        promise11Side();
        promise12Empty();
        promise12Own();
        promise12Best();
        promise12First();
        promise12Most();
        promise12None();
        promise13Rules();
        promise13Below();
        promise13Most();
        promise13None();
        tablesFollow();
        Due.end("SittingsTest");
    }

    private static void promise10Worth() {
        Due.words(10, "WORTH of a SITTING: of all PUPILS by their NEIGHBOURS, together.");
        WhoSitsBy x = Due.withPupils(3);
        Due.due("no room", x.sitting(0), 0);
        Due.room(x, "learn 3 a=0|a=1&b=2;loud 5 r=1");
        Due.due("0 by 1", x.sitting(0), 3);
        x.sit(2, 1);
        Due.due("0 by 2, 1 alone", x.sitting(0), 3);
        x.sit(0, 4);
        x.sit(1, 5);
        Due.due("0 by 1 in the back", x.sitting(0), -7);
        x.sit(2, 2);
        x.sit(0, 3);
        Due.due("2 by 0, from the odd seat", x.sitting(0), 3);
        x = Due.withPupils(8);
        Due.room(x, "learn 10 a<9;loud 1 r=1");
        Due.due("four full desks", x.sitting(0), 80 - 4);
    }

    private static void promise10Alone() {
        Due.words(10, "WORTH of one alone at a DESK: 0.");
        WhoSitsBy x = new WhoSitsBy();
        Due.due("nobody", x.sitting(0), 0);
        for (int kind = 0; kind < 7; kind++) {
            x = new WhoSitsBy();
            x.pupil(kind, 9, 9, 9, 0);
            Due.room(x, "learn 50 a<9;loud 7 a<9;bar a<9");
            for (int seat = 0; seat < 8; seat++) {
                x.sit(0, seat);
                Due.due("kind " + kind + " at " + seat, x.sitting(0), 0);
                Due.due("nor barred at " + seat, x.sitting(1), 0);
            }
        }
        x = Due.withPupils(2);
        Due.room(x, "learn 50 a<9;bar a<9");
        x.sit(0, 7);
        x.sit(1, 4);
        x.image();
        for (int p = 2; p < 8; p++) {
            x.pupil(2, 9, 9, 9, 0);
        }
        Due.due("eight", x.sitting(1), 4);
        x.undo();
        Due.due("two, each alone where eight were", x.sitting(0), 0);
        Due.due("nor barred where eight were", x.sitting(1), 0);
        x = Due.withPupils(4);
        Due.room(x, "learn 50 a<9");
        for (int p = 0; p < 4; p++) {
            x.sit(p, 2 * p);
        }
        Due.due("each at their own", x.sitting(0), 0);
        x.sit(3, 7);
        Due.due("at the other seat of it", x.sitting(0), 0);
    }

    private static void promise10Carrier() {
        Due.words(10, "less v for each one who sits at the other DESK of the ROW of a");
        WhoSitsBy x = new WhoSitsBy();
        x.pupil(5, 4, 2, 0, 0);
        x.pupil(0, 0, 0, 0, 0);
        Due.due("nobody at the other desk", x.sitting(0), -2);
        x.pupil(0, 0, 0, 0, 0);
        x.pupil(0, 0, 0, 0, 0);
        Due.due("two at the other desk", x.sitting(0), -10);
        x.sit(3, 4);
        Due.due("one at the other desk", x.sitting(0), -6);
        x.sit(1, 5);
        Due.due("a carrier alone", x.sitting(0), 0);
        x.sit(0, 6);
        x.sit(2, 7);
        Due.due("in the back", x.sitting(0), -10);
        x.sit(1, 1);
        x.sit(3, 3);
        Due.due("nobody at the other desk in the back", x.sitting(0), -2);
        x = new WhoSitsBy();
        x.pupil(5, 4, 2, 0, 0);
        x.pupil(5, 3, 1, 0, 0);
        x.pupil(0, 0, 0, 0, 0);
        Due.due("two carriers, one at the other desk", x.sitting(0), -10);
        x.sit(0, 2);
        x.sit(1, 3);
        Due.due("at the other desk themselves", x.sitting(0), -3 - 7);
        x.sit(2, 7);
        Due.due("nobody there", x.sitting(0), -3);
    }

    private static void promise10Hush() {
        Due.words(10, "Of the SITTING what 0 WORTH, 1 BREAKS, 2 hush.");
        WhoSitsBy x = Due.withPupils(2);
        Due.due("hush without", x.sitting(2), 5);
        Due.room(x, "learn 3 a=0;bar a=0;hush 7");
        Due.due("worth", x.sitting(0), 3);
        Due.due("breaks", x.sitting(1), 1);
        Due.due("hush", x.sitting(2), 7);
    }

    private static void promise10Barred() {
        Due.words(10, "BREAKS: NEIGHBOURS that are BARRED (each two once)");
        WhoSitsBy x = Due.withPupils(4);
        Due.room(x, "bar a=0&b=1");
        Due.due("of the one by the other", x.sitting(1), 1);
        Due.room(x, "bar a=0&b=1;bar b=0&a=1;bar a=0;bar a=3&r=1");
        Due.due("both ways, by three bars", x.sitting(1), 1);
        x.sit(2, 4);
        x.sit(3, 5);
        Due.due("two desks", x.sitting(1), 2);
        x.sit(0, 7);
        Due.due("0 and 1 part", x.sitting(1), 1);
        x.sit(2, 2);
        Due.due("2 and 3 part, all alone", x.sitting(1), 0);
        x = Due.withPupils(8);
        Due.room(x, "bar a<9");
        Due.due("four desks", x.sitting(1), 4);
    }

    private static void promise10Front() {
        Due.words(10, "and PUPILS who need the FRONT, and sit in the back ROW, together");
        WhoSitsBy x = Due.withPupils(4);
        Due.room(x, "bar a=0&b=1;bar a=3&r=1");
        x.front(2, true);
        x.front(3, true);
        Due.due("who needs the front sits there", x.sitting(1), 1);
        x.sit(2, 4);
        Due.due("one in the back", x.sitting(1), 2);
        x.sit(3, 5);
        Due.due("both in the back, and barred there", x.sitting(1), 4);
        x.front(2, false);
        Due.due("2 needs no front", x.sitting(1), 3);
        x.sit(2, 6);
        Due.due("alone at a desk in the back", x.sitting(1), 2);
        x = Due.withPupils(8);
        for (int p = 0; p < 8; p++) {
            x.front(p, true);
        }
        Due.due("all: four in the back", x.sitting(1), 4);
    }

    private static void promise10Rows() {
        Due.words(10, "DESKS 0, 1 are the front ROW (0), 2, 3 the back ROW (1).");
        WhoSitsBy x = Due.withPupils(2);
        x.front(0, true);
        Due.room(x, "learn 1 r=0&a=0;learn 50 r=1&a=0");
        for (int seat = 0; seat < 8; seat++) {
            x.sit(0, seat);
            x.sit(1, seat ^ 1);
            Due.due("breaks at seat " + seat, x.sitting(1), seat < 4 ? 0 : 1);
            Due.due("worth at seat " + seat, x.sitting(0), seat < 4 ? 1 : 50);
        }
    }

    private static void promise10None() {
        Due.words(10, "-100001: NONE.");
        WhoSitsBy x = Due.withPupils(2);
        Due.due("what 3", x.sitting(3), -100001);
        Due.due("what -1", x.sitting(-1), -100001);
        for (int what : FAR) {
            Due.due("what " + what, x.sitting(what), -100001);
        }
    }

    private static void promise11Swap() {
        Due.words(11, "BEST SWAP: 10 times a, and b; -5.");
        WhoSitsBy x = new WhoSitsBy();
        Due.due("nobody", x.swap(), -5);
        x.pupil(0, 0, 0, 0, 0);
        Due.due("one, well seated", x.swap(), -5);
        x.sit(0, 7);
        x.front(0, true);
        Due.due("one who needs the front, from the last seat", x.swap(), 7);
        x.sit(0, 3);
        Due.due("the last seat in front", x.swap(), -5);
        x = Due.withPupils(8);
        x.sit(0, 6);
        x.front(0, true);
        x.front(1, true);
        x.front(2, true);
        x.front(3, true);
        Due.due("6 is in front for 0", x.swap(), 6);
        x.sit(0, 3);
        x.sit(3, 4);
        Due.due("seats 0 and 4: 6 for 3", x.swap(), 4);
        x.front(0, false);
        x.front(6, true);
        Due.due("seats 3 and 4: 0 for 3", x.swap(), 34);
    }

    private static void promise11Better() {
        Due.words(11, "only if that is fewer BREAKS than as it is, or as many with more WORTH (else -5)");
        WhoSitsBy x = Due.withPupils(2);
        Due.due("all alike", x.swap(), -5);
        Due.room(x, "learn 9 a=0");
        Due.due("none is worth more", x.swap(), -5);
        Due.room(x, "bar a=0;learn 50 a=0");
        Due.due("fewer breaks, less worth", x.swap(), 2);
        x.sit(1, 2);
        Due.due("more worth, more breaks", x.swap(), -5);
        Due.room(x, "loud 9 a=0;learn 9 b=0");
        Due.due("as much worth", x.swap(), -5);
        Due.room(x, "loud 9 a=0;learn 10 b=0");
        Due.due("one more", x.swap(), 3);
        Due.room(x, "loud 9 a=0;learn 2 r=1&b=0");
        Due.due("less worth", x.swap(), -5);
        x.sit(1, 1);
        Due.due("less loud, as many breaks", x.swap(), 2);
    }

    private static void promise11Order() {
        Due.words(11, "BREAKS were fewest; of several WORTH were most; of several the least a, then b");
        WhoSitsBy x = Due.withPupils(4);
        Due.room(x, "bar a=0&b=1;bar a=2&b=3;learn 5 a=1&b=3");
        // 0 1 | 2 3: of those that part both pairs, 1 by 3 is worth 5
        Due.due("fewest breaks, then worth", x.swap(), 3);
        x.front(0, true);
        Due.due("0 stays in front", x.swap(), 3);
        x.sit(0, 2);
        Due.due("2 1, 0 3: no break, more worth by 3 1, 0 2", x.swap(), 3);
        x.front(2, true);
        x.sit(0, 5);
        // 2 1 | . 3 || . 0: at 1, 2 and 3 there is no break for 0, and no worth; at 0 there are two
        Due.due("to the front, the least a", x.swap(), 15);
    }

    private static void promise11Least() {
        Due.words(11, "of several the least a, then b");
        WhoSitsBy x = Due.withPupils(2);
        Due.room(x, "bar a=0");
        // either goes to one of six seats
        Due.due("the least a, the least b", x.swap(), 2);
        x = Due.withPupils(3);
        Due.room(x, "bar a=1&b=0");
        Due.due("0 by 2", x.swap(), 2);
        x = Due.withPupils(8);
        Due.room(x, "bar a=2&b=3");
        // 0 and 1 are free to go to 2, 3, as all others are
        Due.due("of all that part them", x.swap(), 2);
        Due.room(x, "bar a=6&b=7");
        Due.due("at the last desk", x.swap(), 6);
        x.front(0, true);
        x.front(1, true);
        Due.due("0 and 1 stay in front", x.swap(), 26);
        x.front(2, true);
        x.front(3, true);
        Due.due("the front stays", x.swap(), 46);
    }

    private static void promise11Free() {
        Due.words(11, "two SEATS (a less than b; one may be free, not both)");
        WhoSitsBy x = Due.withPupils(1);
        x.front(0, true);
        x.sit(0, 4);
        Due.due("the lesser is free", x.swap(), 4);
        x = Due.withPupils(2);
        Due.room(x, "bar a=0;loud 5 r=0");
        Due.due("the greater is free", x.swap(), 2);
        x = Due.withPupils(2);
        x.sit(0, 7);
        x.sit(1, 6);
        Due.room(x, "learn 1 r=0&a=0;loud 1 r=1");
        Due.due("parted, to the least free seat", x.swap(), 6);
    }

    private static void promise11Side() {
        Due.words(11, "two SEATS (a less than b; one may be free, not both)");
        WhoSitsBy x = Due.withPupils(6);
        x.front(4, true);
        Due.room(x, "learn 9 a=2&b=4");
        Due.due("seats side by side at two desks", x.swap(), 34);
        x.sit(4, 3);
        Due.due("and then no more", x.swap(), -5);
        Due.words(11, "All that follows is asked of the SITTING as it is, and changes nothing.");
        x.sit(4, 4);
        Due.due("34 again", x.swap(), 34);
        for (int p = 0; p < 6; p++) {
            Due.due("seat of " + p, x.of(p, 7), p);
        }
    }

    private static void promise12Empty() {
        Due.words(12, "BEST of all: k -1 WORTH, -2 BREAKS, else the SEAT of PUPIL k.");
        WhoSitsBy x = new WhoSitsBy();
        Due.due("nobody, worth", x.best(-1), 0);
        Due.due("nobody, breaks", x.best(-2), 0);
        x.pupil(0, 0, 0, 0, 0);
        x.sit(0, 6);
        Due.due("one, worth", x.best(-1), 0);
        Due.due("one, breaks", x.best(-2), 0);
        Due.due("one, seat", x.best(0), 0);
        Due.due("it changes nothing", x.of(0, 7), 6);
    }

    private static void promise12Own() {
        Due.words(12, "the row of SEATS for PUPILS by numbers (each its own)");
        WhoSitsBy x = Due.withPupils(5);
        Due.room(x, "learn 5 a=0");
        for (int p = 0; p < 5; p++) {
            for (int q = 0; q < p; q++) {
                Due.due("seats of " + p + ", " + q, x.best(p) == x.best(q) ? 1 : 0, 0);
            }
        }
    }

    private static void promise12Best() {
        Due.words(12, "with the fewest BREAKS; of several the most WORTH");
        WhoSitsBy x = Due.withPupils(5);
        Due.room(x, "learn 5 a=0&b=4&r=1;bar a=1&b=2;learn 1 a=3");
        Due.due("worth", x.best(-1), 6);
        Due.due("breaks", x.best(-2), 0);
        int[] seats = {4, 0, 2, 1, 5};
        for (int p = 0; p < 5; p++) {
            Due.due("seat of " + p, x.best(p), seats[p]);
        }
        x.front(0, true);
        Due.due("rules ahead of worth", x.best(-1), 1);
        Due.due("it changes nothing", x.of(4, 7), 4);
        Due.room(x, "bar a<9&r=0;loud 3 r=1");
        for (int p = 1; p < 5; p++) {
            x.front(p, true);
        }
        Due.due("breaks that cannot be helped", x.best(-2), 3);
        Due.due("of these the most worth", x.best(-1), 0);
    }

    private static void promise12First() {
        Due.words(12, "of several the first as a row");
        WhoSitsBy x = Due.withPupils(5);
        x.sit(0, 7);
        for (int p = 0; p < 5; p++) {
            Due.due("all alike, " + p, x.best(p), p);
        }
        Due.room(x, "learn 1 a=1&b=4");
        int[] seats = {0, 2, 1, 4, 3};
        for (int p = 0; p < 5; p++) {
            Due.due("1 by 4, " + p, x.best(p), seats[p]);
        }
    }

    private static void promise12Most() {
        Due.words(12, "(5 PUPILS at most; else -9)");
        WhoSitsBy x = Due.withPupils(5);
        Due.due("five", x.best(4), 4);
        x.pupil(0, 0, 0, 0, 0);
        for (int k = -2; k < 6; k++) {
            Due.due("six, " + k, x.best(k), -9);
        }
        x.pupil(0, 0, 0, 0, 0);
        x.pupil(0, 0, 0, 0, 0);
        Due.due("eight", x.best(-1), -9);
    }

    private static void promise12None() {
        Due.words(12, "-100001: NONE: k; -9.");
        WhoSitsBy x = Due.withPupils(5);
        Due.due("k 5 of 5", x.best(5), -100001);
        Due.due("k -3", x.best(-3), -100001);
        for (int k : FAR) {
            Due.due("k " + k, x.best(k), -100001);
        }
        Due.due("nobody, k 0", new WhoSitsBy().best(0), -100001);
        x.pupil(0, 0, 0, 0, 0);
        Due.words(12, "the first that a call's words name");
        Due.due("six, k 6", x.best(6), -100001);
        Due.due("six, k -3", x.best(-3), -100001);
    }

    private static void promise13Rules() {
        Due.words(13, "COST of a rule (0 BARRED, 1 the FRONT)");
        WhoSitsBy x = new WhoSitsBy();
        Due.due("nobody", x.cost(0), 0);
        Due.due("nobody, the front", x.cost(1), 0);
        x = Due.withPupils(5);
        Due.due("no rule broken", x.cost(0), 0);
        Due.room(x, "bar a=0&b=1;learn 30 a=0&b=1;learn 4 a=2&b=3&r=1");
        Due.due("what the bar costs", x.cost(0), 30);
        Due.due("what the front costs nobody", x.cost(1), 0);
        x.front(2, true);
        Due.due("what the front costs", x.cost(1), 4);
        Due.due("the bar as ahead", x.cost(0), 30);
    }

    private static void promise13Below() {
        Due.words(13, "than it has (may be below 0)");
        WhoSitsBy x = Due.withPupils(5);
        for (int p = 0; p < 5; p++) {
            x.front(p, true);
        }
        Due.room(x, "bar r=0;learn 9 r=0");
        // three breaks whatever one does: of these the most worth has four in front
        Due.due("below 0", x.cost(1), -36);
        Due.due("no more than there is", x.cost(0), 0);
    }

    private static void promise13Most() {
        Due.words(13, "(5 PUPILS at most; else -9)");
        WhoSitsBy x = Due.withPupils(5);
        Due.due("five", x.cost(0), 0);
        x.pupil(0, 0, 0, 0, 0);
        Due.due("six", x.cost(0), -9);
        Due.due("six, the front", x.cost(1), -9);
    }

    private static void promise13None() {
        Due.words(13, "COST of a rule. NONE; -9.");
        WhoSitsBy x = Due.withPupils(6);
        Due.due("nobody, rule -1", new WhoSitsBy().cost(-1), -1);
        Due.due("six, rule -1", x.cost(-1), -1);
        Due.due("six, rule 2", x.cost(2), -1);
        for (int rule : FAR) {
            Due.due("rule " + rule, x.cost(rule), -1);
            Due.due("one, rule " + rule, Due.withPupils(1).cost(rule), -1);
        }
    }

    /** What is asked follows all that changes a pair: pupils, slips, fronts, seats, rooms, the image. */
    private static void tablesFollow() {
        Due.words(10, "Of the SITTING what 0 WORTH");
        WhoSitsBy x = new WhoSitsBy();
        x.pupil(3, 5, 0, 0, 0);
        x.pupil(6, 2, 0, 0, 0);
        Due.due("no slips", x.sitting(0), 0);
        x.name(1, 0);
        Due.due("1 names 0", x.sitting(0), 7);
        x.image();
        x.name(0, 1);
        Due.due("0 names 1", x.sitting(0), 9);
        Due.room(x, "loud 2 r=0");
        Due.due("a room", x.sitting(0), 5);
        Due.due("best, in the back", x.best(-1), 9);
        x.undo();
        Due.due("as the image", x.sitting(0), 7);
        x.pupil(2, 0, 9, 0, 0);
        x.pupil(0, 0, 0, 0, 0);
        Due.due("two more", x.sitting(0), -2);
        x.undo();
        x.pupil(0, 0, 9, 0, 0);
        x.pupil(0, 0, 0, 0, 0);
        Due.due("two others", x.sitting(0), 7);
        x.name(1, -1);
        Due.due("1 names nobody", x.sitting(0), 0);
        x.undo();
        Due.due("1 names 0 again", x.sitting(0), 7);
    }
}
