/** Promises 7 to 9: feeding a text, rooms and their faults, what a pair is worth. */
public final class RoomsTest {
    public static void main(String[] args) {
        promise7Feed();
        promise8Faults();
        promise8Clauses();
        promise8Rooms();
        promise9Tests();
        promise9Sentences();
        promise9Bars();
        promise9Kinds();
        promise9Carrier();
        promise9Refused();
        Due.end("RoomsTest");
    }

    private static void promise7Feed() {
        WhoSitsBy x = new WhoSitsBy();
        Due.due("sign -1", x.feed(-1), -2);
        Due.due("sign 128", x.feed(128), -2);
        Due.due("sign 256 + 97", x.feed(353), -2);
        Due.due("none taken", x.count(3), 0);
        Due.due("sign 0", x.feed(0), 1);
        Due.due("sign 127", x.feed(127), 2);
        for (int i = 3; i <= 100; i++) {
            Due.due("byte " + i, x.feed('a'), i);
        }
        Due.due("byte 101", x.feed('a'), -4);
        Due.due("bad before full", x.feed(128), -2);
        Due.due("a hundred", x.count(3), 100);
    }

    private static void fault(String text, int place) {
        WhoSitsBy x = new WhoSitsBy();
        Due.due("fault of " + text, Due.room(x, text), -10 - place);
        Due.due("text after the fault of " + text, x.count(3), 0);
        Due.due("rooms after the fault of " + text, x.count(1), 0);
    }

    private static void good(String text) {
        Due.due("room " + text, Due.room(new WhoSitsBy(), text), 0);
    }

    private static void promise8Faults() {
        String[] early = {"", "l", "lo", "loud", "loud ", "loud 1", "loud 12", "loud 1 ", "loud 1 a", "loud 1 a<",
            "le", "learn", "learn 9", "b", "bar", "bar ", "bar !", "bar (", "bar (a=1", "bar a=1|", "bar a=1&",
            "h", "hush", "hush ", "hush 5;", "bar a=1;", "bar !(", "bar (a=1)&(b=2"};
        for (String text : early) {
            fault(text, text.length());
        }
        // the last byte is the first with which no room begins
        String[] late = {"x", "B", " ", ";", "lx", "lex", "loo", "loudx", "loud  ", "loud x", "loud 1x", "loud 1;",
            "loud 123", "loud 1  ", "loud 1 x", "loud 1 aa", "loud 1 a=x", "loud 1 a=123", "loud 1 a=1 ",
            "loud 1 a=1)", "loud 1 a=1(", "bar 1", "bar a=1||", "bar a=1&|", "bar ()", "bar !)", "bar (a=1;",
            "bar (a=1))", "bar (((((", "bar !!!!!", "bar (!(!(", "bar !(!(!", "bar a=1&((((!", "hush 1 ",
            "hush 123", "hush x", "hush 1;;", "hush 1; ", "bar a=-", "bar a>=", "bar a==", "bar A", "bar q"};
        for (String text : late) {
            fault(text, text.length() - 1);
            fault(text + "a=1", text.length() - 1);
        }
    }

    private static void promise8Clauses() {
        String[] texts = {"hush 0", "hush 99", "hush 07;hush 4", "bar a=1", "bar a=12", "learn 5 a<1|b>2&k=3",
            "loud 05 !j<9", "bar ((((t=1))))", "bar !!!!w=2", "bar !(!(r=0))", "bar !!!!a=1&!!!!b=1|((((a=1))))",
            "bar (a=1|b=1)&(a=2|b=2)", "learn 1 a=1;loud 2 b=2;bar r=1;hush 3"};
        for (String text : texts) {
            good(text);
        }
        StringBuilder ten = new StringBuilder("hush 1");
        for (int i = 1; i < 10; i++) {
            ten.append(";hush 1");
        }
        good(ten.toString());
        fault(ten + ";", 69);
        fault(ten + ";hush 1", 69);
        StringBuilder hundred = new StringBuilder("bar a=1");
        for (int i = 0; i < 23; i++) {
            hundred.append(i % 2 == 0 ? "|a=1" : "&a=1");
        }
        good(hundred.append("5").toString());
        fault("bar " + "a<1|".repeat(24), 100);
    }

    private static void promise8Rooms() {
        WhoSitsBy x = new WhoSitsBy();
        Due.due("room 0", Due.room(x, "hush 1"), 0);
        Due.due("text is empty", x.count(3), 0);
        Due.due("holds", x.sitting(2), 1);
        Due.due("a fault", Due.room(x, "hush 2;"), -17);
        Due.due("the one that held holds", x.sitting(2), 1);
        Due.due("not counted", x.count(1), 1);
        Due.due("no hush", Due.room(x, "bar a=1"), 1);
        Due.due("5 without", x.sitting(2), 5);
        Due.due("the last hush", Due.room(x, "hush 3;hush 40;bar a=1"), 2);
        Due.due("hush 40", x.sitting(2), 40);
        for (int r = 3; r < 6; r++) {
            Due.due("room " + r, Due.room(x, "hush " + r), r);
        }
        Due.due("a seventh", Due.room(x, "hush 9"), -4);
        Due.due("the text stays", x.count(3), 6);
        Due.due("a faulty seventh", Due.room(x, "??"), -4);
        Due.due("it stays, too", x.count(3), 8);
        Due.due("six", x.count(1), 6);
        Due.due("the sixth holds", x.sitting(2), 5);
    }

    /** What 0 of pair(a, b, row) by a room of one learn 1 with the expression. */
    private static int learns(String expression, int a, int b, int row) {
        WhoSitsBy x = new WhoSitsBy();
        x.pupil(0, 0, 3, 5, 1);
        x.pupil(0, 0, 9, 8, 1);
        x.pupil(0, 0, 0, 1, 2);
        x.name(0, 1);
        x.name(1, 0);
        x.name(2, 0);
        Due.room(x, "learn 1 " + expression);
        return x.pair(a, b, row, 0);
    }

    private static void holds(String expression, int a, int b, int row, boolean is) {
        Due.due(expression + " of " + a + " by " + b + " in " + row, learns(expression, a, b, row), is ? 1 : 0);
    }

    private static void promise9Tests() {
        holds("a=1", 1, 2, 0, true);
        holds("a=1", 2, 1, 0, false);
        holds("b=1", 2, 1, 0, true);
        holds("a<2", 1, 0, 0, true);
        holds("a<1", 1, 0, 0, false);
        holds("a>1", 1, 0, 0, false);
        holds("a>1", 2, 0, 0, true);
        holds("k=3", 0, 1, 0, true);
        holds("k=0", 1, 0, 0, true);
        holds("k<1", 1, 2, 0, true);
        holds("k>6", 2, 1, 1, true);
        holds("j=12", 0, 1, 0, true);
        holds("j=12", 1, 0, 1, true);
        holds("j<3", 2, 0, 0, false);
        holds("j<04", 2, 0, 0, true);
        holds("t=1", 0, 1, 0, true);
        holds("t=0", 0, 2, 0, true);
        holds("w=2", 0, 1, 0, true);
        holds("w=1", 0, 2, 0, true);
        holds("w=1", 2, 0, 0, true);
        holds("w=0", 1, 2, 0, true);
        holds("r=0", 0, 1, 0, true);
        holds("r=0", 0, 1, 1, false);
        holds("r>0", 0, 1, 1, true);
        holds("a<99", 2, 1, 1, true);
    }

    private static void promise9Sentences() {
        holds("!a=1", 1, 0, 0, false);
        holds("!!a=1", 1, 0, 0, true);
        holds("!a=1|a=1", 1, 0, 0, true);
        holds("!(a=1|b=1)", 1, 0, 0, false);
        holds("!a=0&!b=0", 1, 2, 0, true);
        holds("a=1|a=2&b=7", 1, 0, 0, true);
        holds("(a=1|a=2)&b=7", 1, 0, 0, false);
        holds("b=7&a=2|a=1", 1, 0, 0, true);
        holds("a=7|b=7|a=1", 1, 0, 0, true);
        holds("a=1&b=0&r=1", 1, 0, 0, false);
        holds("a=1&b=0&r=1", 1, 0, 1, true);
        holds("((((a=1))))", 1, 0, 0, true);
        holds("!(!(a=1&b=0))", 1, 0, 0, true);
        WhoSitsBy x = Due.withPupils(2);
        Due.room(x, "learn 5 a=0;loud 2 a=0;learn 60 r=1;loud 7 b=1&r=1;learn 9 a=5");
        Due.due("learns, front", x.pair(0, 1, 0, 0), 5);
        Due.due("learns, back", x.pair(0, 1, 1, 0), 65);
        Due.due("loud, front", x.pair(0, 1, 0, 1), 2);
        Due.due("loud, back", x.pair(0, 1, 1, 1), 9);
        Due.due("worth, back", x.pair(0, 1, 1, 3), 56);
        Due.due("learns, the other", x.pair(1, 0, 1, 0), 60);
        Due.due("loud, the other", x.pair(1, 0, 1, 1), 0);
    }

    private static void promise9Bars() {
        WhoSitsBy x = Due.withPupils(3);
        Due.due("no clauses", x.pair(0, 1, 0, 2), 0);
        Due.room(x, "bar a=0&b=1;bar a=2&r=1");
        Due.due("of a by b", x.pair(0, 1, 0, 2), 1);
        Due.due("of b by a", x.pair(1, 0, 0, 2), 1);
        Due.due("another bar, front", x.pair(1, 2, 0, 2), 0);
        Due.due("another bar, back", x.pair(1, 2, 1, 2), 1);
        Due.due("neither", x.pair(0, 2, 0, 2), 0);
        Due.due("nothing is learnt by a bar", x.pair(0, 1, 0, 0), 0);
        Due.due("nor loud", x.pair(0, 1, 0, 1), 0);
    }

    /** Worth of a pupil of a kind (v 5, talks 3, knows 4) by one who knows so much. */
    private static int worth(int kind, int knows, boolean hoped, boolean wished, boolean other) {
        WhoSitsBy x = new WhoSitsBy();
        x.pupil(kind, 5, 3, 4, 0);
        x.pupil(0, 7, 1, knows, 0);
        x.pupil(0, 7, 1, 9, 0);
        if (hoped) {
            x.name(0, 1);
        }
        if (wished) {
            x.name(1, 0);
        }
        if (other) {
            x.name(2, 0);
        }
        Due.room(x, "learn 20 r=0;loud 1 b=1");
        return x.pair(0, 1, 0, 3);
    }

    private static void promise9Kinds() {
        Due.due("pupil", worth(0, 0, true, true, false), 19);
        Due.due("helping one who knows less", worth(1, 3, false, false, false), 24);
        Due.due("helping one who knows as much", worth(1, 4, true, true, false), 19);
        Due.due("talker", worth(2, 0, true, true, false), 16);
        Due.due("wished for", worth(3, 0, false, true, false), 24);
        Due.due("wished for by another", worth(3, 0, true, false, true), 19);
        Due.due("left, and helping", worth(4, 3, false, false, false), 29);
        Due.due("left, by the only one who names", worth(4, 4, false, true, false), 24);
        Due.due("left, another names", worth(4, 4, false, false, true), 19);
        Due.due("left, both name", worth(4, 3, false, true, true), 24);
        Due.due("hoped", worth(6, 0, true, false, false), 24);
        Due.due("hoped and wished", worth(6, 0, true, true, false), 29);
        Due.due("hoped not", worth(6, 0, false, false, true), 19);
        Due.due("carrier alone in the row but one", worth(5, 0, true, true, false), 11);
    }

    private static void promise9Carrier() {
        WhoSitsBy x = new WhoSitsBy();
        x.pupil(5, 4, 2, 0, 0);
        for (int i = 1; i < 4; i++) {
            x.pupil(0, 0, 0, 0, 0);
        }
        Due.due("two at the other desk", x.pair(0, 1, 0, 3), -10);
        Due.due("told in the back, still the row where a sits", x.pair(0, 1, 1, 3), -10);
        Due.due("b at the other desk now", x.pair(0, 2, 0, 3), -10);
        x.sit(3, 6);
        Due.due("one at the other desk", x.pair(0, 1, 0, 3), -6);
        x.sit(0, 4);
        Due.due("one at the other desk in the back", x.pair(0, 1, 0, 3), -6);
        x.sit(3, 0);
        Due.due("nobody at the other desk", x.pair(0, 1, 0, 3), -2);
        Due.due("others bear nothing", x.pair(1, 0, 0, 3), 0);
        x.sit(0, 3);
        Due.due("3 and 1 at the first desk, 0 at the second", x.pair(0, 1, 0, 3), -10);
        x.sit(3, 7);
        Due.due("2 beside, 1 at the first", x.pair(0, 1, 0, 3), -6);
    }

    private static void promise9Refused() {
        WhoSitsBy x = Due.withPupils(2);
        Due.due("pupil a", x.pair(2, 0, 0, 0), -100001);
        Due.due("pupil b", x.pair(0, 2, 0, 0), -100001);
        Due.due("pupil -1", x.pair(-1, 0, 0, 0), -100001);
        Due.due("row -1", x.pair(0, 1, -1, 0), -100001);
        Due.due("row 2", x.pair(0, 1, 2, 0), -100001);
        Due.due("what -1", x.pair(0, 1, 0, -1), -100001);
        Due.due("what 4", x.pair(0, 1, 0, 4), -100001);
        Due.due("one pupil", x.pair(1, 1, 0, 0), -100002);
        Due.due("none ahead of bad", x.pair(1, 1, 0, 4), -100001);
    }
}
