/** Promises 14 to 16: talk from desk to desk, its noise, who carries it. */
public final class TalkTest {
    public static void main(String[] args) {
        promise14Near();
        promise14Hush();
        promise14Talker();
        promise14Refused();
        promise15Noise();
        promise15Refused();
        promise16Carries();
        promise16Refused();
        Due.end("TalkTest");
    }

    private static WhoSitsBy eight(int kind, int talks) {
        WhoSitsBy x = new WhoSitsBy();
        for (int i = 0; i < 8; i++) {
            x.pupil(kind, 0, talks, 0, 0);
        }
        return x;
    }

    private static void promise14Near() {
        WhoSitsBy x = eight(0, 5);
        // 5 by 2 is 2, and 5 are more than 5
        int[] near = {0x3E, 0x3D, 0xCB, 0xC7, 0xE3, 0xD3, 0xBC, 0x7C};
        for (int p = 0; p < 8; p++) {
            Due.due("near " + p, x.talk(1 << p, 1), near[p]);
            Due.due("minute 0 of " + p, x.talk(1 << p, 0), 1 << p);
        }
        Due.due("two minutes", x.talk(1, 2), 0xFF);
        x = eight(0, 5);
        x.sit(0, 7);
        Due.due("by seats, not by numbers", x.talk(1, 1), 0x7C);
    }

    private static void promise14Hush() {
        WhoSitsBy x = new WhoSitsBy();
        x.pupil(0, 0, 3, 0, 0);
        x.pupil(0, 0, 4, 0, 0);
        x.pupil(0, 0, 2, 0, 0);
        Due.due("3 by 2 and 4: 5 is not more than 5", x.talk(1, 1), 0);
        Due.due("4 by 2 and 3: 5 is not, either", x.talk(2, 1), 0);
        Due.due("3 and 4 by 2, and 2: 5", x.talk(3, 1), 0);
        Due.room(x, "hush 4");
        Due.due("more than 4", x.talk(1, 1), 2);
        Due.due("all such together", x.talk(3, 1), 7);
        Due.due("4 by 2 and 2: 4", x.talk(2, 1), 1);
        Due.room(x, "hush 0");
        x.sit(2, 6);
        Due.due("nobody near talked", x.talk(1, 1), 2);
        Due.due("none to begin with", x.talk(0, 60), 0);
        x = Due.withPupils(2);
        Due.room(x, "hush 0");
        Due.due("0 is not more than 0", x.talk(1, 1), 0);
    }

    private static void promise14Talker() {
        for (int kind = 0; kind < 7; kind++) {
            WhoSitsBy x = new WhoSitsBy();
            x.pupil(kind, 0, 0, 0, 0);
            boolean on = kind == 2 || kind == 5;
            Due.due("goes on alone, kind " + kind, x.talk(1, 60), on ? 1 : 0);
            Due.due("does not begin alone, kind " + kind, x.talk(0, 1), 0);
        }
    }

    private static void promise14Refused() {
        WhoSitsBy x = Due.withPupils(2);
        Due.due("bit 2", x.talk(4, 0), -2);
        Due.due("bit 31", x.talk(-1, 0), -2);
        Due.due("least int", x.talk(Integer.MIN_VALUE, 0), -2);
        Due.due("minute -1", x.talk(1, -1), -2);
        Due.due("minute 61", x.talk(1, 61), -2);
        Due.due("minute 60", x.talk(3, 60), 0);
        Due.due("both", x.talk(3, 0), 3);
        Due.due("nobody there", new WhoSitsBy().talk(1, 0), -2);
        Due.due("nobody talks", new WhoSitsBy().talk(0, 0), 0);
        Due.due("all eight", eight(0, 0).talk(255, 0), 255);
        Due.due("a ninth", eight(0, 0).talk(256, 0), -2);
    }

    private static void promise15Noise() {
        WhoSitsBy x = new WhoSitsBy();
        x.pupil(0, 0, 3, 0, 0);
        x.pupil(0, 0, 5, 0, 0);
        x.pupil(0, 0, 9, 0, 0);
        x.sit(2, 6);
        Due.due("minute 0", x.noise(3, 0, 0), 8);
        Due.due("minute 1: 5 and 1", x.noise(1, 1, 0), 5);
        Due.due("minute 2: 3 and 2 are 5", x.noise(1, 2, 0), 0);
        Due.due("still in minute 2", x.noise(1, 0, 1), 2);
        Due.due("whatever minute", x.noise(1, 60, 1), 2);
        Due.due("one alone is still at once", x.noise(4, 0, 1), 1);
        Due.due("still from the first", x.noise(0, 7, 1), 0);
        x = new WhoSitsBy();
        x.pupil(2, 0, 0, 0, 0);
        Due.due("talks without noise", x.noise(1, 30, 0), 0);
        Due.due("yet is not still", x.noise(1, 0, 1), -5);
    }

    private static void promise15Refused() {
        WhoSitsBy x = Due.withPupils(2);
        Due.due("what -1", x.noise(1, 0, -1), -1);
        Due.due("what 2", x.noise(1, 0, 2), -1);
        Due.due("none ahead of bad", x.noise(4, 61, 2), -1);
        Due.due("bits", x.noise(4, 0, 0), -2);
        Due.due("bits, still", x.noise(-8, 0, 1), -2);
        Due.due("minute 61", x.noise(1, 61, 0), -2);
        Due.due("minute 61, still", x.noise(1, 61, 1), -2);
        Due.due("minute -1, still", x.noise(1, -1, 1), -2);
    }

    private static void promise16Carries() {
        WhoSitsBy x = Due.withPupils(3);
        Due.due("no noise: the least", x.carries(7, 30), 0);
        x = new WhoSitsBy();
        x.pupil(0, 0, 4, 0, 0);
        x.pupil(0, 0, 1, 0, 0);
        x.pupil(0, 0, 8, 0, 0);
        x.sit(0, 0);
        x.sit(1, 2);
        x.sit(2, 6);
        Due.room(x, "hush 2");
        // 0 is in front, 2 behind 1: from 0 by 1 alone talk comes to 2
        Due.due("1 in between", x.talk(1, 1), 2);
        Due.due("to 2", x.talk(1, 2), 4 + 1);
        Due.due("only minute 0", x.carries(1, 0), 0);
        Due.due("who begins", x.carries(1, 3), 0);
        Due.due("from both ends", x.carries(5, 0), 2);
        Due.due("from both ends, on", x.carries(5, 1), 2);
        Due.due("minute 0 alone", x.carries(7, 0), 2);
        Due.due("none told", x.carries(0, 30), 0);
        Due.due("all, on and on", x.carries(7, 30), 1);
    }

    private static void promise16Refused() {
        Due.due("nobody", new WhoSitsBy().carries(0, 0), -5);
        Due.due("nobody, n 30", new WhoSitsBy().carries(0, 30), -5);
        Due.due("nobody, and bits", new WhoSitsBy().carries(1, 0), -2);
        Due.due("nobody, and bits below 0", new WhoSitsBy().carries(-1, 0), -2);
        Due.due("nobody, n -1", new WhoSitsBy().carries(0, -1), -2);
        Due.due("nobody, n 31", new WhoSitsBy().carries(0, 31), -2);
        WhoSitsBy x = Due.withPupils(2);
        Due.due("bits", x.carries(4, 0), -2);
        Due.due("bits below 0", x.carries(-1, 0), -2);
        Due.due("n -1", x.carries(1, -1), -2);
        Due.due("n 31", x.carries(1, 31), -2);
        Due.due("n 30", x.carries(1, 30), 0);
    }
}
