/** Promises 1 to 6: a new object, pupils, fronts, slips, seats. */
public final class PupilsTest {
    public static void main(String[] args) {
        promise1New();
        promise1Refusals();
        promise2Pupil();
        promise2LeastSeat();
        promise3Of();
        promise4Front();
        promise5Name();
        promise6Sit();
        constants();
        Due.end("PupilsTest");
    }

    private static void constants() {
        Due.due("NONE", WhoSitsBy.NONE, -1);
        Due.due("BAD", WhoSitsBy.BAD, -2);
        Due.due("STATE", WhoSitsBy.STATE, -3);
        Due.due("FULL", WhoSitsBy.FULL, -4);
        Due.due("NO", WhoSitsBy.NO, Long.MIN_VALUE);
    }

    private static void promise1New() {
        WhoSitsBy x = new WhoSitsBy();
        for (int what = 0; what < 5; what++) {
            Due.due("new: count " + what, x.count(what), 0);
        }
        Due.due("new: of", x.of(0, 0), -1);
        Due.due("new: hush without a room", x.sitting(2), 5);
        Due.due("new: worth", x.sitting(0), 0);
        Due.due("new: breaks", x.sitting(1), 0);
        Due.due("new: trace", x.trace(0), -1);
        Due.due("new: tape", x.read(0, 0), WhoSitsBy.NO);
        Due.due("new: undo", x.undo(), -3);
        Due.due("new: other objects are their own", Due.withPupils(3).count(0), 3);
        Due.due("new: still nobody", x.count(0), 0);
    }

    // what is answered where nobody is does not go ahead of a refusal
    private static void promise1Refusals() {
        WhoSitsBy x = new WhoSitsBy();
        Due.due("new: carries", x.carries(0, 0), -5);
        Due.due("new: carries, bits", x.carries(1, 0), -2);
        Due.due("new: carries, n", x.carries(0, -1), -2);
        Due.due("new: talk, bits", x.talk(1, 0), -2);
        Due.due("new: noise, what", x.noise(0, 0, 2), -1);
        Due.due("new: noise, minute", x.noise(0, 61, 1), -2);
        Due.due("new: judge, tape", x.judge(6, 0), -1);
        Due.due("new: best, k", x.best(0), -100001);
        Due.due("new: next, k", x.next(0), -100001);
        Due.due("new: cost, rule", x.cost(2), -1);
        Due.due("new: slips, what", x.slips(2), -1);
        Due.due("new: lacks, what", x.lacks(2), -1);
        Due.due("new: sitting, what", x.sitting(3), -100001);
        Due.due("new: pair", x.pair(0, 0, 0, 0), -100001);
        Due.due("new: name", x.name(0, 0), -1);
        Due.due("new: mean, part", x.mean(2), WhoSitsBy.NO);
        Due.due("new: taken, k", x.taken(0, 7), -2);
        Due.due("new: taken", x.taken(0, 0), -11);
        Due.due("new: count, what", x.count(5), -2);
    }

    private static void promise2Pupil() {
        WhoSitsBy x = new WhoSitsBy();
        Due.due("kind -1", x.pupil(-1, 0, 0, 0, 0), -1);
        Due.due("kind 7", x.pupil(7, 0, 0, 0, 0), -1);
        Due.due("kind before v", x.pupil(7, 10, 0, 0, 0), -1);
        Due.due("v -1", x.pupil(0, -1, 0, 0, 0), -2);
        Due.due("v 10", x.pupil(0, 10, 0, 0, 0), -2);
        Due.due("talks -1", x.pupil(0, 0, -1, 0, 0), -2);
        Due.due("talks 10", x.pupil(0, 0, 10, 0, 0), -2);
        Due.due("knows -1", x.pupil(0, 0, 0, -1, 0), -2);
        Due.due("knows 10", x.pupil(0, 0, 0, 10, 0), -2);
        Due.due("tongue -1", x.pupil(0, 0, 0, 0, -1), -2);
        Due.due("tongue 3", x.pupil(0, 0, 0, 0, 3), -2);
        Due.due("all refused", x.count(0), 0);
        for (int i = 0; i < 7; i++) {
            Due.due("pupil " + i, x.pupil(i, 9, 9, 9, 2), i);
        }
        Due.due("the eighth", x.pupil(6, 0, 0, 0, 0), 7);
        Due.due("the ninth", x.pupil(0, 0, 0, 0, 0), -4);
        Due.due("kind before full", x.pupil(7, 0, 0, 0, 0), -1);
        Due.due("bad before full", x.pupil(0, 0, 0, 0, 3), -2);
        Due.due("eight stay", x.count(0), 8);
    }

    private static void promise2LeastSeat() {
        WhoSitsBy x = new WhoSitsBy();
        x.pupil(0, 0, 0, 0, 0);
        x.sit(0, 2);
        int[] seats = {2, 0, 1, 3, 4};
        for (int p = 1; p < seats.length; p++) {
            x.pupil(0, 0, 0, 0, 0);
        }
        for (int p = 0; p < seats.length; p++) {
            Due.due("least free seat of " + p, x.of(p, 7), seats[p]);
        }
    }

    private static void promise3Of() {
        WhoSitsBy x = new WhoSitsBy();
        x.pupil(5, 4, 7, 3, 2);
        x.pupil(0, 0, 1, 8, 1);
        x.pupil(6, 9, 2, 6, 0);
        int[] first = {5, 4, 7, 3, 2, 0, -5, 0, 1};
        int[] last = {6, 9, 2, 6, 0, 1, 0, 2, -5};
        x.front(2, true);
        x.name(2, 0);
        for (int what = 0; what < 9; what++) {
            Due.due("of 0, " + what, x.of(0, what), first[what]);
            Due.due("of 2, " + what, x.of(2, what), last[what]);
        }
        Due.due("beside, from the odd seat", x.of(1, 8), 0);
        x.sit(2, 7);
        Due.due("seat after a move", x.of(2, 7), 7);
        x.sit(1, 6);
        Due.due("neighbour at the last desk", x.of(2, 8), 1);
        Due.due("seats 1 and 2 are no desk", x.of(0, 8), -5);
        Due.due("of -1", x.of(-1, 0), -1);
        Due.due("of 3", x.of(3, 0), -1);
        Due.due("of 8", x.of(8, 0), -1);
        Due.due("of 0, -1", x.of(0, -1), -1);
        Due.due("of 0, 9", x.of(0, 9), -1);
        Due.due("of far", x.of(Integer.MIN_VALUE, Integer.MAX_VALUE), -1);
    }

    private static void promise4Front() {
        WhoSitsBy x = Due.withPupils(2);
        Due.due("front, was not", x.front(1, true), 0);
        Due.due("front, was", x.front(1, true), 1);
        Due.due("front of 1", x.of(1, 5), 1);
        Due.due("front of 0", x.of(0, 5), 0);
        Due.due("front no more", x.front(1, false), 1);
        Due.due("front no more, again", x.front(1, false), 0);
        Due.due("front of -1", x.front(-1, true), -1);
        Due.due("front of 2", x.front(2, true), -1);
        x.pupil(0, 0, 0, 0, 0);
        Due.due("a new one needs no front", x.of(2, 5), 0);
    }

    private static void promise5Name() {
        WhoSitsBy x = Due.withPupils(3);
        Due.due("name, nobody ahead", x.name(0, 1), -5);
        Due.due("name another", x.name(0, 2), 1);
        Due.due("name the same", x.name(0, 2), 2);
        Due.due("themselves", x.name(0, 0), -2);
        Due.due("kept", x.of(0, 6), 2);
        Due.due("name nobody", x.name(0, -1), 2);
        Due.due("named nobody", x.of(0, 6), -5);
        Due.due("nobody again", x.name(0, -1), -5);
        Due.due("no such other", x.name(0, 3), -1);
        Due.due("no such other -2", x.name(0, -2), -1);
        Due.due("no such pupil", x.name(3, 0), -1);
        Due.due("no such pupil -1", x.name(-1, 0), -1);
        Due.due("neither: none ahead of bad", x.name(3, 3), -1);
        Due.due("-1 by -1", x.name(-1, -1), -1);
    }

    private static void promise6Sit() {
        WhoSitsBy x = Due.withPupils(3);
        Due.due("to a free seat", x.sit(0, 5), 0);
        Due.due("to a taken seat", x.sit(1, 5), 1);
        Due.due("who went", x.of(1, 7), 5);
        Due.due("who gave way", x.of(0, 7), 1);
        Due.due("who did not move", x.of(2, 7), 2);
        Due.due("to their own", x.sit(2, 2), 2);
        Due.due("stays there", x.of(2, 7), 2);
        Due.due("seat -1", x.sit(0, -1), -1);
        Due.due("seat 8", x.sit(0, 8), -1);
        Due.due("pupil 3", x.sit(3, 0), -1);
        Due.due("pupil -1", x.sit(-1, 0), -1);
        Due.due("nothing moved", x.of(0, 7), 1);
    }
}
