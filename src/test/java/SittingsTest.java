/** Promises 10 to 13: what a sitting is worth and breaks, the best swap, the best of all, costs. */
public final class SittingsTest {
    public static void main(String[] args) {
        promise10Worth();
        promise10Carrier();
        promise10Breaks();
        promise11Swap();
        promise11SwapOrder();
        promise11SwapNext();
        promise12Best();
        promise12Refused();
        promise13Cost();
        tablesFollow();
        Due.end("SittingsTest");
    }

    private static void promise10Worth() {
        WhoSitsBy x = Due.withPupils(3);
        Due.due("no room", x.sitting(0), 0);
        Due.room(x, "learn 3 a=0|a=1&b=2;loud 5 r=1;hush 7");
        Due.due("0 by 1", x.sitting(0), 3);
        x.sit(2, 1);
        Due.due("0 by 2, 1 alone", x.sitting(0), 3);
        x.sit(0, 4);
        x.sit(1, 5);
        Due.due("0 by 1 in the back", x.sitting(0), -7);
        x.sit(2, 2);
        x.sit(0, 3);
        Due.due("2 by 0, from the odd seat", x.sitting(0), 3);
        Due.due("hush", x.sitting(2), 7);
        Due.due("what 3", x.sitting(3), -100001);
        Due.due("what -1", x.sitting(-1), -100001);
    }

    private static void promise10Carrier() {
        WhoSitsBy x = new WhoSitsBy();
        x.pupil(5, 4, 2, 0, 0);
        x.pupil(0, 0, 0, 0, 0);
        Due.due("nobody at the other desk", x.sitting(0), -2);
        x.pupil(0, 0, 0, 0, 0);
        x.pupil(0, 0, 0, 0, 0);
        Due.due("two at the other desk", x.sitting(0), -10);
        x.sit(3, 4);
        Due.due("one at the other desk", x.sitting(0), -6);
        x.sit(1, 5);
        Due.due("a carrier alone", x.sitting(0), 0);
        x.sit(0, 6);
        x.sit(2, 7);
        Due.due("in the back", x.sitting(0), -10);
        x.sit(1, 1);
        x.sit(3, 3);
        Due.due("nobody at the other desk in the back", x.sitting(0), -2);
        x = new WhoSitsBy();
        x.pupil(5, 4, 2, 0, 0);
        x.pupil(5, 3, 1, 0, 0);
        x.pupil(0, 0, 0, 0, 0);
        Due.due("two carriers, one at the other desk", x.sitting(0), -10);
        x.sit(0, 2);
        x.sit(1, 3);
        Due.due("at the other desk themselves", x.sitting(0), -3 - 7);
        x.sit(2, 7);
        Due.due("nobody there", x.sitting(0), -3);
    }

    private static void promise10Breaks() {
        WhoSitsBy x = Due.withPupils(4);
        Due.room(x, "bar a=0&b=1;bar b=0&a=1;bar a=3&r=1");
        Due.due("barred both ways counts once", x.sitting(1), 1);
        x.front(2, true);
        x.front(3, true);
        Due.due("who needs the front sits there", x.sitting(1), 1);
        x.sit(2, 4);
        Due.due("one in the back", x.sitting(1), 2);
        x.sit(3, 5);
        Due.due("both in the back, and barred there", x.sitting(1), 4);
        x.sit(0, 7);
        Due.due("0 and 1 part", x.sitting(1), 3);
        x.front(2, false);
        Due.due("2 needs no front", x.sitting(1), 2);
        x.sit(2, 6);
        Due.due("alone at a desk, none is barred", x.sitting(1), 1);
    }

    private static void promise11Swap() {
        WhoSitsBy x = new WhoSitsBy();
        Due.due("nobody", x.swap(), -5);
        x.pupil(0, 0, 0, 0, 0);
        Due.due("one, well seated", x.swap(), -5);
        x.sit(0, 6);
        x.front(0, true);
        Due.due("one who needs the front", x.swap(), 6);
        x.sit(0, 0);
        x.pupil(0, 0, 0, 0, 0);
        Due.due("as good as it gets", x.swap(), -5);
        Due.room(x, "bar a=0");
        Due.due("0 and 1 are to part", x.swap(), 2);
        x.sit(1, 2);
        Due.due("nothing is broken", x.swap(), -5);
        Due.room(x, "loud 9 a=0;learn 2 r=1&b=0");
        Due.due("no gain: 1 learns 2, 0 loses 9", x.swap(), -5);
        Due.room(x, "loud 9 a=0;learn 11 r=0&b=0");
        Due.due("a gain: 0 comes to 1, or 1 to 0", x.swap(), 3);
        Due.due("it changes nothing", x.of(0, 7), 0);
    }

    private static void promise11SwapOrder() {
        WhoSitsBy x = Due.withPupils(4);
        Due.room(x, "bar a=0&b=1;bar a=2&b=3;learn 5 a=1&b=3");
        // 0 1 | 2 3: of those that part both pairs, 1 by 3 is worth 5
        Due.due("fewest breaks, then worth", x.swap(), 3);
        x.front(0, true);
        Due.due("0 stays in front", x.swap(), 3);
        x.sit(0, 2);
        Due.due("2 1, 0 3: no break, more worth by 3 1, 0 2", x.swap(), 3);
        x.front(2, true);
        x.sit(0, 5);
        // 2 1 | . 3 || . 0: at 1, 2 and 3 there is no break for 0, and no worth; at 0 there are two
        Due.due("to the front, the least a", x.swap(), 15);
    }

    private static void promise11SwapNext() {
        WhoSitsBy x = Due.withPupils(6);
        x.front(4, true);
        Due.room(x, "learn 9 a=2&b=4");
        Due.due("seats side by side at two desks", x.swap(), 34);
        x.sit(4, 3);
        Due.due("and then no more", x.swap(), -5);
    }

    private static void promise12Best() {
        WhoSitsBy x = new WhoSitsBy();
        Due.due("nobody, worth", x.best(-1), 0);
        Due.due("nobody, breaks", x.best(-2), 0);
        Due.due("nobody, no seat", x.best(0), -100001);
        for (int i = 0; i < 5; i++) {
            x.pupil(0, 0, 0, 0, 0);
        }
        for (int p = 0; p < 5; p++) {
            Due.due("all alike: the first row, " + p, x.best(p), p);
        }
        Due.room(x, "learn 5 a=0&b=4&r=1;bar a=1&b=2;learn 1 a=3");
        Due.due("worth", x.best(-1), 6);
        Due.due("breaks", x.best(-2), 0);
        int[] seats = {4, 0, 2, 1, 5};
        for (int p = 0; p < 5; p++) {
            Due.due("seat of " + p, x.best(p), seats[p]);
        }
        x.front(0, true);
        Due.due("rules ahead of worth", x.best(-1), 1);
        Due.due("it changes nothing", x.of(4, 7), 4);
        Due.room(x, "bar a<9&r=0;loud 3 r=1");
        for (int p = 1; p < 5; p++) {
            x.front(p, true);
        }
        Due.due("breaks that cannot be helped", x.best(-2), 3);
        Due.due("of these the most worth", x.best(-1), 0);
    }

    private static void promise12Refused() {
        WhoSitsBy x = Due.withPupils(5);
        Due.due("k 5 of 5", x.best(5), -100001);
        Due.due("k -3", x.best(-3), -100001);
        x.pupil(0, 0, 0, 0, 0);
        Due.due("six", x.best(-1), -9);
        Due.due("six, breaks", x.best(-2), -9);
        Due.due("six, k 5", x.best(5), -9);
        Due.due("six, k 6", x.best(6), -100001);
        Due.due("six, k -3", x.best(-3), -100001);
    }

    private static void promise13Cost() {
        WhoSitsBy x = new WhoSitsBy();
        Due.due("nobody", x.cost(0), 0);
        Due.due("rule -1", x.cost(-1), -1);
        Due.due("rule 2", x.cost(2), -1);
        for (int i = 0; i < 5; i++) {
            x.pupil(0, 0, 0, 0, 0);
        }
        Due.room(x, "bar a=0&b=1;learn 30 a=0&b=1;learn 4 a=2&b=3&r=1");
        Due.due("what the bar costs", x.cost(0), 30);
        Due.due("what the front costs nobody", x.cost(1), 0);
        x.front(2, true);
        Due.due("what the front costs", x.cost(1), 4);
        for (int p = 0; p < 5; p++) {
            x.front(p, true);
        }
        Due.room(x, "bar r=0;learn 9 r=0");
        // three breaks whatever one does: of these the most worth has four in front
        Due.due("below 0", x.cost(1), -36);
        Due.due("no more than there is", x.cost(0), 0);
        x.pupil(0, 0, 0, 0, 0);
        Due.due("six", x.cost(0), -9);
        Due.due("six, rule 2", x.cost(2), -1);
    }

    /** What is asked follows all that changes a pair: pupils, slips, fronts, seats, rooms, the image. */
    private static void tablesFollow() {
        WhoSitsBy x = new WhoSitsBy();
        x.pupil(3, 5, 0, 0, 0);
        x.pupil(6, 2, 0, 0, 0);
        Due.due("no slips", x.sitting(0), 0);
        x.name(1, 0);
        Due.due("1 names 0", x.sitting(0), 7);
        x.image();
        x.name(0, 1);
        Due.due("0 names 1", x.sitting(0), 9);
        Due.room(x, "loud 1 r=0");
        Due.due("a room", x.sitting(0), 7);
        Due.due("best, in the back", x.best(-1), 9);
        x.undo();
        Due.due("as the image", x.sitting(0), 7);
        x.pupil(2, 0, 9, 0, 0);
        x.pupil(0, 0, 0, 0, 0);
        Due.due("two more", x.sitting(0), -2);
        x.undo();
        x.pupil(0, 0, 9, 0, 0);
        x.pupil(0, 0, 0, 0, 0);
        Due.due("two others", x.sitting(0), 7);
    }
}
