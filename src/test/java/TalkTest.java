/** Promises 14 to 16: talk from desk to desk, its noise, who carries it. */
public final class TalkTest {
    private static final int[] FAR = {Integer.MIN_VALUE, Integer.MAX_VALUE};

    public static void main(String[] args) {
        promise14MinuteNought();
        promise14Near();
        promise14Other();
        promise14Cut();
        promise14Hush();
        promise14Talker();
        promise14Bits();
        promise14Minute();
        promise15Noise();
        promise15Still();
        promise15Never();
        promise15None();
        promise15Bad();
        promise16Free();
        promise16Minutes();
        promise16Least();
        promise16Nobody();
        promise16Bad();
        Due.end("TalkTest");
    }

    private static WhoSitsBy eight(int kind, int talks) {
        WhoSitsBy x = new WhoSitsBy();
        for (int i = 0; i < 8; i++) {
            x.pupil(kind, 0, talks, 0, 0);
        }
        return x;
    }

    private static void promise14MinuteNought() {
        Due.words(14, "in MINUTE 0 some talk (told as bits of PUPILS).");
        WhoSitsBy x = eight(0, 0);
        Due.room(x, "hush 99");
        for (int bits = 0; bits < 256; bits++) {
            Due.due("bits " + bits, x.talk(bits, 0), bits);
        }
        Due.due("and then nobody", x.talk(255, 1), 0);
    }

    private static void promise14Near() {
        Due.words(14, "NEAR one another are those in one ROW, and those at DESKS d and d + 2.");
        WhoSitsBy x = eight(0, 5);
        // 5 by 2 is 2, and 5 are more than 5
        int[] near = {0x3E, 0x3D, 0xCB, 0xC7, 0xE3, 0xD3, 0xBC, 0x7C};
        for (int p = 0; p < 8; p++) {
            Due.due("near " + p, x.talk(1 << p, 1), near[p]);
        }
        Due.due("two minutes", x.talk(1, 2), 0xFF);
        x.sit(0, 7);
        Due.due("by seats, not by numbers", x.talk(1, 1), 0x7C);
    }

    private static void promise14Other() {
        Due.words(14, "one talks, if some other one NEAR them talked in the MINUTE ahead");
        WhoSitsBy x = new WhoSitsBy();
        x.pupil(0, 0, 9, 0, 0);
        x.pupil(0, 0, 9, 0, 0);
        Due.room(x, "hush 0");
        Due.due("none to begin with", x.talk(0, 60), 0);
        Due.due("the other, not oneself", x.talk(1, 1), 2);
        Due.due("to and fro", x.talk(1, 2), 1);
        Due.due("both", x.talk(3, 1), 3);
        x.sit(1, 6);
        Due.due("nobody near", x.talk(1, 1), 0);
        x.sit(1, 4);
        Due.due("behind", x.talk(1, 1), 2);
        // one who talks without noise is one who talks
        x = new WhoSitsBy();
        x.pupil(0, 0, 0, 0, 0);
        x.pupil(0, 0, 1, 0, 0);
        Due.room(x, "hush 0");
        Due.due("by one of no talks", x.talk(1, 1), 2);
        Due.due("by nobody", x.talk(0, 1), 0);
    }

    private static void promise14Cut() {
        Due.words(14, "and TALKS of all such, together, by 2 (cut)");
        WhoSitsBy x = new WhoSitsBy();
        x.pupil(0, 0, 3, 0, 0);
        x.pupil(0, 0, 5, 0, 0);
        x.pupil(0, 0, 4, 0, 0);
        Due.room(x, "hush 5");
        Due.due("3 by 2 is 1: 5 and 1, 4 and 1", x.talk(1, 1), 2);
        Due.due("5 by 2 is 2: 3 and 2, 4 and 2", x.talk(2, 1), 4);
        Due.due("3 and 5 by 2 is 4: 4 and 4; 3 and 2; 5 and 1", x.talk(3, 1), 6);
        Due.room(x, "hush 7");
        Due.due("together, then cut: 4 and 4 are 8", x.talk(3, 1), 4);
    }

    private static void promise14Hush() {
        Due.words(14, "and their own TALKS are more than hush");
        WhoSitsBy x = new WhoSitsBy();
        x.pupil(0, 0, 3, 0, 0);
        x.pupil(0, 0, 4, 0, 0);
        x.pupil(0, 0, 2, 0, 0);
        Due.due("3 by 2 and 4: 5 is not more than 5", x.talk(1, 1), 0);
        Due.due("4 by 2 and 3: 5 is not, either", x.talk(2, 1), 0);
        Due.due("3 and 4 by 2, and 2: 5", x.talk(3, 1), 0);
        Due.room(x, "hush 4");
        Due.due("more than 4", x.talk(1, 1), 2);
        Due.due("all such together", x.talk(3, 1), 7);
        Due.due("4 by 2 and 2: 4", x.talk(2, 1), 1);
        x = Due.withPupils(2);
        Due.room(x, "hush 0");
        Due.due("0 is not more than 0", x.talk(1, 1), 0);
        x = eight(0, 9);
        Due.room(x, "hush 31");
        // five near of 9 each by 2 is 22, and 9 are 31
        Due.due("all talk: 31 is not more than 31", x.talk(255, 1), 0);
        Due.room(x, "hush 30");
        Due.due("but than 30", x.talk(255, 60), 255);
    }

    private static void promise14Talker() {
        Due.words(14, "a TALKER (or one under that) also, if they talked themselves in the MINUTE ahead");
        for (int kind = 0; kind < 7; kind++) {
            WhoSitsBy x = new WhoSitsBy();
            x.pupil(kind, 0, 0, 0, 0);
            Due.room(x, "hush 99");
            boolean on = kind == 2 || kind == 5;
            Due.due("goes on alone, kind " + kind, x.talk(1, 60), on ? 1 : 0);
            Due.due("does not begin alone, kind " + kind, x.talk(0, 1), 0);
            x.pupil(0, 0, 9, 0, 0);
            Due.due("does not begin by one below the hush, kind " + kind, x.talk(2, 1), 0);
            Due.room(x, "hush 3");
            Due.due("begins by one above it, kind " + kind, x.talk(2, 1), 1);
        }
    }

    private static void promise14Bits() {
        Due.words(14, "BAD: bits of PUPILS that are not there, minute.");
        WhoSitsBy x = Due.withPupils(2);
        Due.due("both", x.talk(3, 0), 3);
        Due.due("bit 2", x.talk(4, 0), -2);
        Due.due("bits 0 and 2", x.talk(5, 0), -2);
        Due.due("all bits", x.talk(-1, 0), -2);
        for (int bits : FAR) {
            Due.due("bits " + bits, x.talk(bits, 0), -2);
        }
        Due.due("nobody there", new WhoSitsBy().talk(1, 0), -2);
        Due.due("nobody talks", new WhoSitsBy().talk(0, 0), 0);
        Due.due("all eight", eight(0, 0).talk(255, 0), 255);
        Due.due("a ninth", eight(0, 0).talk(256, 0), -2);
    }

    private static void promise14Minute() {
        Due.words(14, "Who talks in a MINUTE (0 .. 60)");
        WhoSitsBy x = new WhoSitsBy();
        x.pupil(0, 0, 9, 0, 0);
        x.pupil(0, 0, 9, 0, 0);
        Due.due("minute 0", x.talk(1, 0), 1);
        Due.due("minute 59", x.talk(1, 59), 2);
        Due.due("minute 60", x.talk(1, 60), 1);
        Due.due("minute 61", x.talk(1, 61), -2);
        Due.due("minute -1", x.talk(1, -1), -2);
        for (int minute : FAR) {
            Due.due("minute " + minute, x.talk(1, minute), -2);
        }
    }

    private static void promise15Noise() {
        Due.words(15, "NOISE in a MINUTE: TALKS of those that talk, together.");
        WhoSitsBy x = new WhoSitsBy();
        x.pupil(0, 0, 3, 0, 0);
        x.pupil(0, 0, 5, 0, 0);
        x.pupil(0, 0, 9, 0, 0);
        x.sit(2, 6);
        Due.due("nobody", x.noise(0, 0, 0), 0);
        Due.due("minute 0", x.noise(3, 0, 0), 8);
        Due.due("all", x.noise(7, 0, 0), 17);
        Due.due("minute 1: 5 and 1", x.noise(1, 1, 0), 5);
        Due.due("minute 2: 3 and 2 are 5", x.noise(1, 2, 0), 0);
        Due.due("minute 60", x.noise(7, 60, 0), 0);
        Due.due("eight at their loudest", eight(0, 9).noise(255, 60, 0), 72);
    }

    private static void promise15Still() {
        Due.words(15, "STILL: the first MINUTE (0 .. 60) in which nobody talks");
        WhoSitsBy x = new WhoSitsBy();
        x.pupil(0, 0, 3, 0, 0);
        x.pupil(0, 0, 5, 0, 0);
        x.pupil(0, 0, 9, 0, 0);
        x.sit(2, 6);
        Due.due("from the first", x.noise(0, 7, 1), 0);
        Due.due("one alone", x.noise(4, 0, 1), 1);
        Due.due("in minute 2", x.noise(1, 0, 1), 2);
        // the longest found by trying: eight minutes
        x = new WhoSitsBy();
        int[] talks = {9, 8, 9, 7, 5, 1, 5, 3};
        int[] seats = {2, 0, 7, 1, 6, 5, 4, 3};
        for (int p = 0; p < 8; p++) {
            x.pupil(0, 0, talks[p], 0, 0);
        }
        for (int p = 0; p < 8; p++) {
            x.sit(p, seats[p]);
        }
        Due.room(x, "hush 15");
        Due.due("in minute 8", x.noise(59, 0, 1), 8);
        Due.due("somebody in minute 7", x.talk(59, 7) == 0 ? 1 : 0, 0);
        Due.words(15, "1 STILL (whatever MINUTE 0 .. 60; -5)");
        Due.due("told in minute 60", x.noise(59, 60, 1), 8);
        Due.due("told in minute 9", x.noise(59, 9, 1), 8);
    }

    private static void promise15Never() {
        Due.words(15, "in which nobody talks (-5: none)");
        WhoSitsBy x = new WhoSitsBy();
        x.pupil(2, 0, 0, 0, 0);
        Due.due("talks without noise", x.noise(1, 30, 0), 0);
        Due.due("yet is not still", x.noise(1, 0, 1), -5);
        Due.due("told in minute 60", x.noise(1, 60, 1), -5);
        Due.due("eight", eight(0, 9).noise(1, 0, 1), -5);
    }

    private static void promise15None() {
        Due.words(15, "NONE; BAD likewise.");
        WhoSitsBy x = Due.withPupils(2);
        Due.due("what -1", x.noise(1, 0, -1), -1);
        Due.due("what 2", x.noise(1, 0, 2), -1);
        for (int what : FAR) {
            Due.due("what " + what, x.noise(1, 0, what), -1);
        }
        Due.words(15, "the first that a call's words name");
        Due.due("what ahead of bits", x.noise(4, 0, 2), -1);
        Due.due("what ahead of minute", x.noise(1, 61, -1), -1);
    }

    private static void promise15Bad() {
        Due.words(15, "NONE; BAD likewise.");
        WhoSitsBy x = Due.withPupils(2);
        for (int what = 0; what < 2; what++) {
            Due.due("bit 2, what " + what, x.noise(4, 0, what), -2);
            Due.due("bits below 0, what " + what, x.noise(-8, 0, what), -2);
            Due.due("minute 61, what " + what, x.noise(1, 61, what), -2);
            Due.due("minute -1, what " + what, x.noise(1, -1, what), -2);
            Due.due("nobody there, what " + what, new WhoSitsBy().noise(1, 0, what), -2);
            for (int n : FAR) {
                Due.due("minute " + n + ", what " + what, x.noise(1, n, what), -2);
                Due.due("bits " + n + ", what " + what, x.noise(n, 0, what), -2);
            }
            Due.due("nobody still, what " + what, new WhoSitsBy().noise(0, 60, what), 0);
        }
    }

    private static WhoSitsBy between() {
        WhoSitsBy x = new WhoSitsBy();
        x.pupil(0, 0, 4, 0, 0);
        x.pupil(0, 0, 1, 0, 0);
        x.pupil(0, 0, 8, 0, 0);
        x.sit(1, 2);
        x.sit(2, 6);
        Due.room(x, "hush 2");
        return x;
    }

    private static void promise16Free() {
        Due.words(16, "the PUPIL without whom (their SEAT being free, they not talking in MINUTE 0 either)");
        WhoSitsBy x = between();
        // 0 is in front, 2 behind 1: from 0 by 1 alone talk comes to 2
        Due.due("1 in between", x.talk(1, 1), 2);
        Due.due("to 2", x.talk(1, 2), 4 + 1);
        Due.due("not talking in minute 0", x.carries(1, 0), 0);
        Due.due("nor then", x.carries(1, 3), 0);
        Due.due("2 in minute 0", x.carries(5, 0), 2);
        Due.due("2 in minute 0 and on", x.carries(5, 1), 2);
        Due.due("nobody sits between", x.carries(7, 30), 1);
        x = new WhoSitsBy();
        x.pupil(0, 0, 1, 0, 0);
        x.pupil(2, 0, 9, 0, 0);
        Due.due("a talker who would go on", x.carries(2, 30), 1);
        Due.due("or be talked to", x.carries(1, 30), 0);
        Due.due("one alone", Due.withPupils(1).carries(1, 30), 0);
    }

    private static void promise16Minutes() {
        Due.words(16, "NOISE of MINUTES 0 .. n (0 .. 30), together, would be least");
        WhoSitsBy x = between();
        Due.due("minute 0 alone: the loudest", x.carries(7, 0), 2);
        Due.due("to minute 30", x.carries(7, 30), 1);
        int[] sums = {-1, -1, -1};
        for (int n = 0; n <= 30; n++) {
            int least = 0;
            for (int p = 0; p < 3; p++) {
                sums[p] = without(p, n);
                least = sums[p] < sums[least] ? p : least;
            }
            Due.due("to minute " + n, x.carries(7, n), least);
        }
        Due.due("0 and 1 go on, 1 and 2, not 0 and 2", sums[1] < sums[0] && sums[1] < sums[2] ? 1 : 0, 1);
    }

    /** The noise of minutes 0 to n of those between whom one is left out, all but that one talking at first. */
    private static int without(int pupil, int n) {
        int[] talks = {4, 1, 8};
        int[] seats = {0, 2, 6};
        WhoSitsBy x = new WhoSitsBy();
        for (int p = 0; p < 3; p++) {
            if (p != pupil) {
                x.pupil(0, 0, talks[p], 0, 0);
            }
        }
        int q = 1;
        for (int p = 2; p >= 0; p--) {
            if (p != pupil) {
                x.sit(q, seats[p]);
                q--;
            }
        }
        Due.room(x, "hush 2");
        int sum = 0;
        for (int m = 0; m <= n; m++) {
            sum += x.noise(3, m, 0);
        }
        return sum;
    }

    private static void promise16Least() {
        Due.words(16, "would be least (of several the least)");
        WhoSitsBy x = Due.withPupils(3);
        Due.due("no noise", x.carries(7, 30), 0);
        Due.due("none told", between().carries(0, 30), 0);
        Due.due("all alike", eight(0, 9).carries(255, 30), 0);
        Due.due("7 alone talked, and goes", eight(0, 9).carries(128, 0), 7);
        x = new WhoSitsBy();
        x.pupil(0, 0, 1, 0, 0);
        x.pupil(0, 0, 5, 0, 0);
        x.pupil(0, 0, 5, 0, 0);
        Due.due("1 as well as 2", x.carries(6, 0), 1);
    }

    private static void promise16Nobody() {
        Due.words(16, "CARRIES up to n; -5: there are no PUPILS.");
        Due.due("n 0", new WhoSitsBy().carries(0, 0), -5);
        Due.due("n 30", new WhoSitsBy().carries(0, 30), -5);
        WhoSitsBy x = new WhoSitsBy();
        x.image();
        x.pupil(0, 0, 0, 0, 0);
        Due.due("one", x.carries(1, 0), 0);
        x.undo();
        Due.due("nobody any more", x.carries(0, 0), -5);
    }

    private static void promise16Bad() {
        Due.words(16, "BAD: bits, n.");
        WhoSitsBy x = Due.withPupils(2);
        Due.due("bit 2", x.carries(4, 0), -2);
        Due.due("bits below 0", x.carries(-1, 0), -2);
        Due.due("n -1", x.carries(1, -1), -2);
        Due.due("n 31", x.carries(1, 31), -2);
        Due.due("n 30", x.carries(1, 30), 0);
        for (int n : FAR) {
            Due.due("n " + n, x.carries(1, n), -2);
            Due.due("bits " + n, x.carries(n, 0), -2);
        }
        Due.due("nobody, and bits", new WhoSitsBy().carries(1, 0), -2);
        Due.due("nobody, and bits below 0", new WhoSitsBy().carries(-1, 0), -2);
        Due.due("nobody, n -1", new WhoSitsBy().carries(0, -1), -2);
        Due.due("nobody, n 31", new WhoSitsBy().carries(0, 31), -2);
    }
}
