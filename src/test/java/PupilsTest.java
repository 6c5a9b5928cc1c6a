/** Promises 1 to 6: a new object, pupils, fronts, slips, seats. */
public final class PupilsTest {
    private static final int[] FAR = {-1, -2, Integer.MIN_VALUE, Integer.MAX_VALUE};

    public static void main(String[] args) {
        constants();
        answers();
        promise1Nobody();
        promise1NoRoom();
        promise1Refusals();
        promise1LastCall();
        promise2Numbers();
        promise2LeastSeat();
        promise2Edges();
        promise2NotAtFirst();
        promise2NoKind();
        promise2Bad();
        promise2Full();
        promise2FirstNamed();
        promise3Of();
        promise3Names();
        promise3Neighbour();
        promise3Desks();
        promise3None();
        promise4Front();
        promise4None();
        promise5Name();
        promise5Nobody();
        promise5None();
        promise5Themselves();
        promise6Sit();
        promise6Theirs();
        promise6Seats();
        promise6None();
        Due.end("PupilsTest");
    }

    private static void constants() {
        Due.words(1, "NONE = -1, BAD = -2, STATE = -3, FULL = -4");
        Due.due("NONE", WhoSitsBy.NONE, -1);
        Due.due("BAD", WhoSitsBy.BAD, -2);
        Due.due("STATE", WhoSitsBy.STATE, -3);
        Due.due("FULL", WhoSitsBy.FULL, -4);
        Due.words(1, "NO = Long.MIN_VALUE");
        Due.due("NO", WhoSitsBy.NO, Long.MIN_VALUE);
    }

    private static void answers() {
        Due.words(1, "NONE (-1) no such number; BAD (-2) a number is not as told; STATE (-3) as told; FULL (-4)");
        WhoSitsBy x = Due.withPupils(8);
        Due.due("no such pupil", x.of(8, 0), WhoSitsBy.NONE);
        Due.due("no sign", x.feed(128), WhoSitsBy.BAD);
        Due.due("no image", x.undo(), WhoSitsBy.STATE);
        Due.due("a ninth", x.pupil(0, 0, 0, 0, 0), WhoSitsBy.FULL);
        Due.due("no such tape", x.read(6, 0), WhoSitsBy.NO);
    }

    private static void promise1Nobody() {
        Due.words(1, "Nobody, no ROOM.");
        WhoSitsBy x = new WhoSitsBy();
        for (int what = 0; what < 5; what++) {
            Due.due("count " + what, x.count(what), 0);
        }
        Due.due("of", x.of(0, 0), -1);
        Due.due("worth", x.sitting(0), 0);
        Due.due("breaks", x.sitting(1), 0);
        Due.due("swap", x.swap(), -5);
        Due.due("who carries", x.carries(0, 0), -5);
        Due.due("who talks", x.talk(0, 60), 0);
        Due.due("alone", x.slips(0), 0);
        Due.due("closed", x.slips(1), -5);
        Due.due("lacks", x.lacks(0), 0);
        Due.due("all pairs were put down", x.lacks(1), 1);
        Due.due("month", x.month(), 0);
        Due.due("trace", x.trace(0), -1);
        Due.due("undo", x.undo(), -3);
        Due.due("other objects are their own", Due.withPupils(3).count(0), 3);
        Due.due("still nobody", x.count(0), 0);
    }

    private static void promise1NoRoom() {
        Due.words(1, "Nobody, no ROOM.");
        WhoSitsBy x = new WhoSitsBy();
        Due.due("rooms", x.count(1), 0);
        Due.due("hush without one", x.sitting(2), 5);
        Due.due("the first one's number", Due.room(x, "hush 1"), 0);
    }

    // what is answered where nobody is does not go ahead of a refusal
    private static void promise1Refusals() {
        Due.words(1, "the first that a call's words name");
        WhoSitsBy x = new WhoSitsBy();
        Due.due("carries, bits", x.carries(1, 0), -2);
        Due.due("carries, n", x.carries(0, -1), -2);
        Due.due("talk, bits", x.talk(1, 0), -2);
        Due.due("noise, what", x.noise(0, 0, 2), -1);
        Due.due("noise, minute", x.noise(0, 61, 1), -2);
        Due.due("judge, tape", x.judge(6, 0), -1);
        Due.due("best, k", x.best(0), -100001);
        Due.due("next, k", x.next(0), -100001);
        Due.due("cost, rule", x.cost(2), -1);
        Due.due("slips, what", x.slips(2), -1);
        Due.due("lacks, what", x.lacks(2), -1);
        Due.due("sitting, what", x.sitting(3), -100001);
        Due.due("pair", x.pair(0, 0, 0, 0), -100001);
        Due.due("name", x.name(0, 0), -1);
        Due.due("mean, part", x.mean(2), WhoSitsBy.NO);
        Due.due("taken, k", x.taken(0, 7), -2);
        Due.due("taken", x.taken(0, 0), -11);
        Due.due("count, what", x.count(5), -2);
    }

    private static void promise1LastCall() {
        Due.words(1, "An object is used for at most 512 calls after it has been made");
        WhoSitsBy x = Due.withPupils(2);
        for (int call = 3; call < 511; call++) {
            Due.due("call " + call, x.sit(0, call % 8), call == 3 ? 0 : (call - 1) % 8);
        }
        Due.due("call 511", x.sit(0, 5), 510 % 8);
        Due.due("call 512", x.of(0, 7), 5);
    }

    private static void promise2Numbers() {
        Due.words(2, "PUPILS 0 .. 7, as they come");
        WhoSitsBy x = new WhoSitsBy();
        for (int i = 0; i < 8; i++) {
            Due.due("pupil " + i, x.pupil(i % 7, i, i + 1, 9 - i, i % 3), i);
            Due.due("how many", x.count(0), i + 1);
        }
        for (int i = 0; i < 8; i++) {
            Due.due("v of " + i, x.of(i, 1), i);
            Due.due("knows of " + i, x.of(i, 3), 9 - i);
        }
    }

    private static void promise2LeastSeat() {
        Due.words(2, "each in the least SEAT that is free");
        WhoSitsBy x = Due.withPupils(1);
        x.sit(0, 2);
        int[] seats = {2, 0, 1, 3, 4};
        for (int p = 1; p < seats.length; p++) {
            x.pupil(0, 0, 0, 0, 0);
        }
        for (int p = 0; p < seats.length; p++) {
            Due.due("least free seat of " + p, x.of(p, 7), seats[p]);
        }
        for (int free = 0; free < 8; free++) {
            x = Due.withPupils(7);
            if (free < 7) {
                x.sit(free, 7);
            }
            x.pupil(0, 0, 0, 0, 0);
            Due.due("the last free seat", x.of(7, 7), free);
        }
    }

    private static void edges(int kind, int v, int talks, int knows, int tongue) {
        WhoSitsBy x = new WhoSitsBy();
        Due.due("taken", x.pupil(kind, v, talks, knows, tongue), 0);
        int[] told = {kind, v, talks, knows, tongue};
        for (int what = 0; what < told.length; what++) {
            Due.due("what " + what, x.of(0, what), told[what]);
        }
    }

    private static void promise2Edges() {
        Due.words(2, "TALKS (0 .. 9), KNOWS (0 .. 9), a TONGUE (0 .. 2)");
        edges(0, 0, 0, 0, 0);
        edges(0, 5, 9, 0, 0);
        edges(0, 5, 0, 9, 0);
        edges(0, 5, 0, 0, 2);
        Due.words(2, "with a number v (0 .. 9)");
        edges(0, 0, 1, 1, 1);
        edges(0, 9, 1, 1, 1);
        Due.words(2, "0 PUPIL; 1 HELPING, 2 TALKER, 3 WISHED under PUPIL; 4 LEFT under HELPING; 5 CARRIER under TALKER");
        for (int kind = 0; kind < 7; kind++) {
            edges(kind, 1, 2, 3, 1);
        }
    }

    private static void promise2NotAtFirst() {
        Due.words(2, "whether they need the FRONT (not at first)");
        WhoSitsBy x = Due.withPupils(1);
        Due.due("front", x.of(0, 5), 0);
        x.front(0, true);
        x.pupil(0, 0, 0, 0, 0);
        Due.due("front of another", x.of(1, 5), 0);
        Due.words(2, "which PUPIL they name (nobody at first)");
        Due.due("slip", x.of(0, 6), -5);
        x.name(0, 1);
        x.pupil(0, 0, 0, 0, 0);
        Due.due("slip of another", x.of(2, 6), -5);
        Due.due("by nobody", x.named(2), 0);
    }

    private static void promise2NoKind() {
        Due.words(2, "NONE: kind");
        WhoSitsBy x = new WhoSitsBy();
        Due.due("kind 7", x.pupil(7, 0, 0, 0, 0), -1);
        for (int kind : FAR) {
            Due.due("kind " + kind, x.pupil(kind, 0, 0, 0, 0), -1);
        }
        Due.due("nobody came", x.count(0), 0);
        Due.due("nor to a seat", x.pupil(0, 0, 0, 0, 0), 0);
    }

    private static void promise2Bad() {
        Due.words(2, "BAD: v, talks, knows, tongue");
        WhoSitsBy x = new WhoSitsBy();
        Due.due("v 10", x.pupil(0, 10, 0, 0, 0), -2);
        Due.due("talks 10", x.pupil(0, 0, 10, 0, 0), -2);
        Due.due("knows 10", x.pupil(0, 0, 0, 10, 0), -2);
        Due.due("tongue 3", x.pupil(0, 0, 0, 0, 3), -2);
        for (int n : FAR) {
            Due.due("v " + n, x.pupil(0, n, 0, 0, 0), -2);
            Due.due("talks " + n, x.pupil(0, 0, n, 0, 0), -2);
            Due.due("knows " + n, x.pupil(0, 0, 0, n, 0), -2);
            Due.due("tongue " + n, x.pupil(0, 0, 0, 0, n), -2);
        }
        Due.due("nobody came", x.count(0), 0);
    }

    private static void promise2Full() {
        Due.words(2, "FULL: 8");
        WhoSitsBy x = Due.withPupils(7);
        Due.due("the eighth", x.pupil(6, 0, 0, 0, 0), 7);
        Due.due("the ninth", x.pupil(1, 0, 0, 0, 0), -4);
        Due.due("eight stay", x.count(0), 8);
        Due.due("no number 8", x.of(8, 0), -1);
        Due.due("the eighth is as before", x.of(7, 0), 6);
    }

    private static void promise2FirstNamed() {
        Due.words(2, "the first that a call's words name");
        WhoSitsBy x = Due.withPupils(8);
        Due.due("kind ahead of v", x.pupil(7, 10, 0, 0, 0), -1);
        Due.due("kind ahead of full", x.pupil(-1, 0, 0, 0, 0), -1);
        Due.due("tongue ahead of full", x.pupil(0, 0, 0, 0, 3), -2);
    }

    private static void promise3Of() {
        Due.words(3, "Of a PUPIL what 0 KIND, 1 v, 2 TALKS, 3 KNOWS, 4 TONGUE, 5 whether they need the FRONT");
        WhoSitsBy x = new WhoSitsBy();
        x.pupil(5, 4, 7, 3, 2);
        x.pupil(0, 0, 1, 8, 1);
        x.pupil(6, 9, 2, 6, 0);
        x.front(2, true);
        int[] first = {5, 4, 7, 3, 2, 0};
        int[] last = {6, 9, 2, 6, 0, 1};
        for (int what = 0; what < 6; what++) {
            Due.due("of 0, " + what, x.of(0, what), first[what]);
            Due.due("of 2, " + what, x.of(2, what), last[what]);
        }
    }

    private static void promise3Names() {
        Due.words(3, "6 whom they name (-5)");
        WhoSitsBy x = Due.withPupils(3);
        Due.due("nobody", x.of(2, 6), -5);
        x.name(2, 0);
        x.name(0, 2);
        Due.due("pupil 0", x.of(2, 6), 0);
        Due.due("pupil 2", x.of(0, 6), 2);
        Due.due("nobody yet", x.of(1, 6), -5);
        x.name(2, -1);
        Due.due("nobody again", x.of(2, 6), -5);
    }

    private static void promise3Neighbour() {
        Due.words(3, "7 the SEAT, 8 the NEIGHBOUR (-5)");
        WhoSitsBy x = Due.withPupils(3);
        Due.due("from the even seat", x.of(0, 8), 1);
        Due.due("from the odd seat", x.of(1, 8), 0);
        Due.due("one alone", x.of(2, 8), -5);
        Due.due("seat", x.of(2, 7), 2);
        x.sit(2, 7);
        Due.due("seat behind a move", x.of(2, 7), 7);
        x.sit(1, 6);
        Due.due("neighbour at the last desk", x.of(2, 8), 1);
        Due.due("left alone", x.of(0, 8), -5);
    }

    private static void promise3Desks() {
        Due.words(3, "SEAT k is at DESK k by 2 (cut)");
        WhoSitsBy x = Due.withPupils(2);
        for (int k = 0; k < 8; k++) {
            for (int m = 0; m < 8; m++) {
                x.sit(0, k);
                x.sit(1, m);
                int own = x.of(0, 7);
                Due.due("seats " + own + ", " + m, x.of(1, 8), own / 2 == m / 2 ? 0 : -5);
            }
        }
    }

    private static void promise3None() {
        Due.words(3, "NONE.");
        WhoSitsBy x = Due.withPupils(3);
        Due.due("of 3", x.of(3, 0), -1);
        Due.due("of 8", x.of(8, 0), -1);
        Due.due("of 0, 9", x.of(0, 9), -1);
        for (int n : FAR) {
            Due.due("of " + n, x.of(n, 0), -1);
            Due.due("of 0, " + n, x.of(0, n), -1);
        }
    }

    private static void promise4Front() {
        Due.words(4, "A PUPIL needs the FRONT, or not: 1 if they did, 0.");
        WhoSitsBy x = Due.withPupils(2);
        Due.due("was not, is not", x.front(1, false), 0);
        Due.due("was not", x.front(1, true), 0);
        Due.due("was", x.front(1, true), 1);
        Due.due("of 1", x.of(1, 5), 1);
        Due.due("of 0", x.of(0, 5), 0);
        Due.due("no more", x.front(1, false), 1);
        Due.due("no more, again", x.front(1, false), 0);
        Due.due("of 1, no more", x.of(1, 5), 0);
        x = Due.withPupils(8);
        Due.due("the last one", x.front(7, true), 0);
        Due.due("is so", x.front(7, true), 1);
    }

    private static void promise4None() {
        Due.words(4, "NONE.");
        WhoSitsBy x = Due.withPupils(2);
        Due.due("pupil 2", x.front(2, true), -1);
        Due.due("pupil 8", x.front(8, true), -1);
        // 32 more than pupil 0, where a shift comes round again
        Due.due("pupil 32", x.front(32, true), -1);
        for (int n : FAR) {
            Due.due("pupil " + n, x.front(n, true), -1);
        }
        Due.due("of 0", x.of(0, 5), 0);
        x.pupil(0, 0, 0, 0, 0);
        Due.due("who comes as 2", x.of(2, 5), 0);
    }

    private static void promise5Name() {
        Due.words(5, "whom they named (-5)");
        WhoSitsBy x = Due.withPupils(3);
        Due.due("nobody ahead", x.name(0, 1), -5);
        Due.due("another", x.name(0, 2), 1);
        Due.due("the same", x.name(0, 2), 2);
        Due.due("kept", x.of(0, 6), 2);
        Due.due("pupil 0", x.name(2, 0), -5);
        Due.due("was pupil 0", x.name(2, 1), 0);
    }

    private static void promise5Nobody() {
        Due.words(5, "A PUPIL names another one (-1: nobody)");
        WhoSitsBy x = Due.withPupils(3);
        Due.due("nobody, as ahead", x.name(0, -1), -5);
        x.name(0, 2);
        Due.due("nobody more", x.name(0, -1), 2);
        Due.due("kept", x.of(0, 6), -5);
        Due.due("2 is named by none", x.named(2), 0);
        Due.due("nobody again", x.name(0, -1), -5);
    }

    private static void promise5None() {
        Due.words(5, "NONE: pupils");
        WhoSitsBy x = Due.withPupils(3);
        x.name(0, 1);
        Due.due("other 3", x.name(0, 3), -1);
        Due.due("other -2", x.name(0, -2), -1);
        Due.due("other far", x.name(0, Integer.MAX_VALUE), -1);
        Due.due("other far below", x.name(0, Integer.MIN_VALUE), -1);
        Due.due("pupil 3", x.name(3, 0), -1);
        for (int n : FAR) {
            Due.due("pupil " + n, x.name(n, 0), -1);
        }
        Due.due("nobody is no pupil", x.name(-1, -1), -1);
        Due.due("nor names nobody", x.name(3, -1), -1);
        Due.due("kept", x.of(0, 6), 1);
        Due.due("nobody there ahead of bad", x.name(3, 3), -1);
    }

    private static void promise5Themselves() {
        Due.words(5, "BAD: themselves");
        WhoSitsBy x = Due.withPupils(3);
        x.name(0, 2);
        for (int p = 0; p < 3; p++) {
            Due.due("pupil " + p, x.name(p, p), -2);
        }
        Due.due("kept", x.of(0, 6), 2);
        Due.due("kept nobody", x.of(1, 6), -5);
    }

    private static void promise6Sit() {
        Due.words(6, "A PUPIL goes to a SEAT");
        WhoSitsBy x = Due.withPupils(3);
        Due.due("to a free seat", x.sit(0, 5), 0);
        Due.due("is there", x.of(0, 7), 5);
        Due.due("to their own", x.sit(2, 2), 2);
        Due.due("stays there", x.of(2, 7), 2);
        Due.due("back", x.sit(0, 0), 5);
        Due.due("nobody else moved", x.of(1, 7), 1);
    }

    private static void promise6Theirs() {
        Due.words(6, "(who sits there to theirs): where they sat");
        WhoSitsBy x = Due.withPupils(8);
        Due.due("to the last seat", x.sit(0, 7), 0);
        Due.due("who went", x.of(0, 7), 7);
        Due.due("who gave way", x.of(7, 7), 0);
        Due.due("to the first seat", x.sit(1, 0), 1);
        Due.due("who gave way once more", x.of(7, 7), 1);
        Due.due("who did not move", x.of(2, 7), 2);
    }

    private static void promise6Seats() {
        Due.words(6, "SEATS 0 .. 7, two at a DESK");
        WhoSitsBy x = Due.withPupils(1);
        for (int seat = 0; seat < 8; seat++) {
            Due.due("to seat " + seat, x.sit(0, seat), Math.max(0, seat - 1));
            Due.due("at seat " + seat, x.of(0, 7), seat);
        }
    }

    private static void promise6None() {
        Due.words(6, "NONE.");
        WhoSitsBy x = Due.withPupils(3);
        Due.due("seat 8", x.sit(0, 8), -1);
        Due.due("pupil 3", x.sit(3, 0), -1);
        for (int n : FAR) {
            Due.due("seat " + n, x.sit(0, n), -1);
            Due.due("pupil " + n, x.sit(n, 0), -1);
        }
        for (int p = 0; p < 3; p++) {
            Due.due("nobody moved", x.of(p, 7), p);
        }
    }
}
