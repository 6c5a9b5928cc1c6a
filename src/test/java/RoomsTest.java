/** Promises 7 to 9: feeding a text, rooms and their faults, what a pair is worth. */
public final class RoomsTest {
    public static void main(String[] args) {
        promise7Feed();
        promise7Bad();
        promise7Full();
        promise8Ends();
        promise8Faults();
        promise8Clauses();
        promise8Blanks();
        promise8Digits();
        promise8Signs();
        promise8Sentences();
        promise8Within();
        promise8Text();
        promise8Empty();
        promise8Ten();
        promise8Newest();
        promise8Full();
        promise8Hush();
        promise9Letters();
        promise9Rows();
        promise9MoreOrLess();
        promise9Sentences();
        promise9Together();
        promise9Bars();
        promise9Helping();
        promise9Talker();
        promise9Wished();
        promise9Left();
        promise9Hoped();
        promise9Carrier();
        promise9CarrierNow();
        promise9None();
        promise9OnePupil();
        Due.end("RoomsTest");
    }

    private static void promise7Feed() {
        Due.words(7, "A sign (0 .. 127) comes behind THE TEXT's: how many it has.");
        WhoSitsBy x = new WhoSitsBy();
        Due.due("sign 0", x.feed(0), 1);
        Due.due("sign 127", x.feed(127), 2);
        Due.due("so many", x.count(3), 2);
        x = new WhoSitsBy();
        Due.feed(x, "hush 1");
        x.feed('2');
        Due.due("behind the others", x.room(), 0);
        Due.due("as told", x.sitting(2), 12);
    }

    private static void promise7Bad() {
        Due.words(7, "BAD; FULL.");
        WhoSitsBy x = new WhoSitsBy();
        int[] bad = {-1, 128, 256 + 'a', Integer.MIN_VALUE, Integer.MAX_VALUE};
        for (int sign : bad) {
            Due.due("sign " + sign, x.feed(sign), -2);
        }
        Due.due("none taken", x.count(3), 0);
    }

    private static void promise7Full() {
        Due.words(7, "A ROOM is read from THE TEXT (bytes, 100 at most)");
        WhoSitsBy x = new WhoSitsBy();
        for (int i = 1; i <= 100; i++) {
            Due.due("byte " + i, x.feed('a'), i);
        }
        Due.due("byte 101", x.feed('a'), -4);
        Due.due("byte 101 once more", x.feed(0), -4);
        Due.due("a hundred", x.count(3), 100);
        Due.words(7, "the first that a call's words name");
        Due.due("bad ahead of full", x.feed(128), -2);
        Due.due("bad ahead of full, below", x.feed(-1), -2);
    }

    private static void fault(String text, int place) {
        WhoSitsBy x = new WhoSitsBy();
        Due.due("the room " + text, Due.room(x, text), -10 - place);
        Due.due("rooms after " + text, x.count(1), 0);
    }

    private static void good(String text) {
        Due.due("the room " + text, Due.room(new WhoSitsBy(), text), 0);
    }

    private static void promise8Ends() {
        Due.words(8, "(the end of THE TEXT, if it ends too early)");
        String[] early = {"", "l", "lo", "loud", "loud ", "loud 1", "loud 12", "loud 1 ", "loud 1 a", "loud 1 a<",
            "le", "learn", "learn 9", "b", "bar", "bar ", "bar !", "bar (", "bar (a=1", "bar a=1|", "bar a=1&",
            "h", "hush", "hush ", "hush 5;", "bar a=1;", "bar !(", "bar (a=1)&(b=2", "bar ((((", "bar !!!!"};
        for (String text : early) {
            fault(text, text.length());
        }
        String hundred = "bar " + "a<1|".repeat(24);
        fault(hundred, 100);
        // what stood behind that end in a text ahead is no part of it
        String whole = "loud 12 a=1|b=2&!(k>3);hush 45";
        for (int end = 0; end <= whole.length(); end++) {
            WhoSitsBy x = new WhoSitsBy();
            Due.due("a longer text", Due.room(x, whole + "x"), -10 - whole.length());
            Due.due("the first " + end + " of " + whole, Due.room(x, whole.substring(0, end)),
                Due.room(new WhoSitsBy(), whole.substring(0, end)));
        }
    }

    // the last byte is the first with which no room begins
    private static void promise8Faults() {
        Due.words(8, "The FAULT: the place of the first byte with which none begins so");
        String[] late = {"x", "B", " ", ";", "lx", "lex", "loo", "loudx", "loud  ", "loud x", "loud 1x", "loud 1;",
            "loud 123", "loud 1  ", "loud 1 x", "loud 1 aa", "loud 1 a=x", "loud 1 a=123", "loud 1 a=1 ",
            "loud 1 a=1)", "loud 1 a=1(", "bar 1", "bar a=1||", "bar a=1&|", "bar ()", "bar !)", "bar (a=1;",
            "bar (a=1))", "bar (((((", "bar !!!!!", "bar (!(!(", "bar !(!(!", "bar a=1&((((!", "hush 1 ",
            "hush 123", "hush x", "hush 1;;", "hush 1; ", "bar a=-", "bar a>=", "bar a==", "bar A", "bar q"};
        for (String text : late) {
            fault(text, text.length() - 1);
            fault(text + "a=1", text.length() - 1);
        }
        String[] cut = {"l", "lear", "lo", "lou", "b", "ba", "h", "hus"};
        for (String word : cut) {
            fault(word + " 5 a=1", word.length());
            fault(word + " a=1", word.length());
            fault(word + " 5", word.length());
        }
        Due.words(8, "-10 less the FAULT");
        fault("", 0);
        fault("x", 0);
        fault("bx", 1);
        // the last of a hundred bytes
        fault("bar " + "a<1|".repeat(23) + "a<1x", 99);
    }

    private static String clauses(int many) {
        String[] some = {"hush 1", "bar a=1", "hush 10", "bar b>2"};
        StringBuilder s = new StringBuilder();
        for (int i = 0; i < many; i++) {
            s.append(i == 0 ? "" : ";").append(some[i % some.length]);
        }
        return s.toString();
    }

    private static void promise8Clauses() {
        Due.words(8, "CLAUSES, 1 to 10, with ; between");
        fault("", 0);
        fault(";", 0);
        fault(";hush 1", 0);
        for (int many = 1; many <= 10; many++) {
            good(clauses(many));
        }
        int end = clauses(10).length();
        fault(clauses(10) + ";", end);
        fault(clauses(11), end);
        fault("hush 1,hush 2", 6);
        String[] sorts = {"learn 5 a<1|b>2&k=3", "loud 05 !j<9", "bar t=1", "hush 0"};
        for (String one : sorts) {
            good(one);
            for (String other : sorts) {
                good(one + ";" + other);
            }
        }
    }

    private static void promise8Blanks() {
        Due.words(8, "one blank ahead of each part behind the word");
        fault("learn1 a=1", 5);
        fault("learn  1 a=1", 6);
        fault("learn 1a=1", 7);
        fault("learn 1  a=1", 8);
        fault("loud1 a=1", 4);
        fault("loud  1 a=1", 5);
        fault("bara=1", 3);
        fault("bar  a=1", 4);
        fault("hush5", 4);
        fault("hush  5", 5);
        fault(" hush 5", 0);
        fault("hush 5 ", 6);
        fault("hush 5; hush 5", 7);
        fault("hush 5 ;hush 5", 6);
        fault("bar a =1", 5);
        fault("bar a= 1", 6);
        fault("bar a=1 |b=1", 7);
        fault("bar a=1| b=1", 8);
        fault("bar ( a=1)", 5);
        fault("bar (a=1 )", 8);
        fault("bar ! a=1", 5);
    }

    private static void promise8Digits() {
        Due.words(8, "n 1 or 2 digits");
        for (String n : new String[] {"0", "9", "00", "09", "10", "99"}) {
            good("hush " + n);
            good("learn " + n + " a=1");
            good("loud " + n + " a=1");
        }
        fault("hush a", 5);
        fault("hush -1", 5);
        fault("hush 100", 7);
        fault("learn a=1", 6);
        fault("learn 123 a=1", 8);
        fault("loud a=1", 5);
        fault("loud 100 a=1", 7);
        fault("bar 1 a=1", 4);
        fault("hush 1 a=1", 6);
        Due.words(8, "a number (1 or 2 digits)");
        for (String n : new String[] {"0", "9", "00", "09", "10", "99"}) {
            good("bar a<" + n);
        }
        fault("bar a<&b=1", 6);
        fault("bar a<-1", 6);
        fault("bar a<100", 8);
        fault("bar (a<001)", 9);
    }

    // each of the 128 signs where a letter, a comparison, a digit is due
    private static void promise8Signs() {
        Due.words(8, "a TEST: a letter, < or = or >, a number (1 or 2 digits)");
        for (char sign = 0; sign < 128; sign++) {
            if ("abkjtwr".indexOf(sign) >= 0) {
                good("bar " + sign + "=1");
            } else {
                fault("bar " + sign + "=1", sign == '!' || sign == '(' ? 5 : 4);
            }
            if ("<=>".indexOf(sign) >= 0) {
                good("bar a" + sign + "1");
            } else {
                fault("bar a" + sign + "1", 5);
            }
            if (sign >= '0' && sign <= '9') {
                good("bar a<" + sign);
            } else {
                fault("bar a<" + sign, 6);
            }
        }
    }

    private static void promise8Sentences() {
        Due.words(8, "E: T or T|E. T: F or F&T. F: !F, (E)");
        String[] texts = {"bar a=1", "bar a=12", "bar a=1|b=1", "bar a=1&b=1", "bar a=1|b=1|k=1|j=1", "bar !a=1",
            "bar a=1&b=1&k=1&j=1", "bar (a=1|b=1)&(a=2|b=2)", "bar (a=1)", "bar !(!(r=0))", "bar !!a=1&!!b=1",
            "bar (a=1&(b=1|(k=1)))"};
        for (String text : texts) {
            good(text);
        }
        fault("bar |a=1", 4);
        fault("bar &a=1", 4);
        fault("bar a=1|", 8);
        fault("bar a=1&", 8);
        fault("bar a=1|&b=1", 8);
        fault("bar a=1!b=1", 7);
        fault("bar a=1(b=1)", 7);
        fault("bar (a=1)b=1", 9);
        fault("bar ()", 5);
        fault("bar !|a=1", 5);
        fault("bar a=1)", 7);
    }

    // four signs one within the other, told by the bits of a number, and what closes them
    private static String nested(int bits, String inner) {
        String text = inner;
        for (int depth = 0; depth < 4; depth++) {
            text = (bits >> depth & 1) == 0 ? "!" + text : "(" + text + ")";
        }
        return text;
    }

    private static void promise8Within() {
        Due.words(8, "A ( or ! within 4 others is none.");
        for (int bits = 0; bits < 16; bits++) {
            good("bar " + nested(bits, "a=1"));
            fault("bar " + nested(bits, "!a=1"), 8);
            fault("bar " + nested(bits, "(a=1)"), 8);
            good("bar " + nested(bits, "a=1") + "&" + nested(15 - bits, "b=1") + "|" + nested(bits, "k=1"));
        }
        good("bar (a=1&!(b=1|!k=1))");
        fault("bar (a=1&!(b=1|!(k=1)))", 16);
        good("bar !(a=1|!(b=1&a=2))");
        fault("bar !(a=1|!(b=1&(a=2)))", 16);
        fault("bar !(a=1|!(b=1&!a=2))", 16);
    }

    private static void promise8Text() {
        Due.words(8, "A ROOM is read from THE TEXT (bytes, 100 at most)");
        String hundred = "bar a=1" + "|a=1&a=1".repeat(11) + "|a=15";
        Due.due("so long", hundred.length(), 100);
        good(hundred);
        good(hundred.substring(0, 99));
        WhoSitsBy x = new WhoSitsBy();
        Due.feed(x, hundred);
        Due.due("one more", x.feed(';'), -4);
        Due.due("is no part of it", x.room(), 0);
    }

    private static void promise8Empty() {
        Due.words(8, "THE TEXT, which is empty then, is a ROOM, and holds: its number.");
        WhoSitsBy x = new WhoSitsBy();
        Due.due("room 0", Due.room(x, "hush 1"), 0);
        Due.due("text is empty", x.count(3), 0);
        Due.due("holds", x.sitting(2), 1);
        Due.due("the next has nothing of it", Due.room(x, "hush 2"), 1);
        Due.due("an empty text", x.room(), -10);
        Due.words(8, "-10 less the FAULT (the one that held holds)");
        Due.due("a fault", Due.room(x, "hush 3;"), -17);
        Due.due("text is empty, too", x.count(3), 0);
        Due.due("the one that held holds", x.sitting(2), 2);
        Due.due("it is no room", x.count(1), 2);
        Due.due("a fault behind a bar", Due.room(x, "bar a<9;learn 5 a<9;hush 77;x"), -38);
        Due.due("text is empty once more", x.count(3), 0);
        x.pupil(0, 0, 0, 0, 0);
        x.pupil(0, 0, 0, 0, 0);
        Due.due("no bar of it", x.pair(0, 1, 0, 2), 0);
        Due.due("no learn of it", x.pair(0, 1, 0, 0), 0);
        Due.due("its number was not taken", Due.room(x, "bar a=1"), 2);
        Due.due("the next has no hush of it", x.sitting(2), 5);
        Due.due("the next has no learn of it", x.pair(0, 1, 0, 0), 0);
        Due.due("a clause more than ten", Due.room(x, clauses(10) + ";"), -10 - clauses(10).length());
        Due.due("ten behind it", Due.room(x, clauses(10)), 3);
    }

    private static void promise8Ten() {
        Due.words(8, "CLAUSES, 1 to 10, with ; between");
        for (int which = 0; which < 10; which++) {
            WhoSitsBy x = Due.withPupils(2);
            StringBuilder text = new StringBuilder();
            for (int c = 0; c < 10; c++) {
                text.append(c == 0 ? "" : ";").append(c == which ? "bar a<9" : "bar a=9");
            }
            Due.room(x, text.toString());
            Due.due("clause " + which + " of ten holds", x.pair(0, 1, 0, 2), 1);
        }
        WhoSitsBy x = Due.withPupils(2);
        String most = "!!!!a=9|".repeat(11) + "!!!!a<9";
        for (int i = 0; i < 3; i++) {
            Due.due("a long fault", Due.room(x, "bar " + most + ";"), -10 - 100);
        }
        Due.due("a long room behind it", Due.room(x, "bar " + most), 0);
        Due.due("its last part holds", x.pair(0, 1, 0, 2), 1);
    }

    private static void promise8Newest() {
        Due.words(8, "The newest ROOM holds (6 at most); without one there are no CLAUSES.");
        WhoSitsBy x = Due.withPupils(2);
        for (int row = 0; row < 2; row++) {
            for (int what = 0; what < 4; what++) {
                Due.due("without one, row " + row + ", " + what, x.pair(0, 1, row, what), 0);
            }
        }
        Due.due("hush without one", x.sitting(2), 5);
        for (int r = 0; r < 6; r++) {
            Due.due("room " + r, Due.room(x, "hush " + (10 + r) + ";learn " + (20 + r) + " a=0"), r);
            Due.due("its hush", x.sitting(2), 10 + r);
            Due.due("its learn alone", x.pair(0, 1, 0, 0), 20 + r);
            Due.due("how many", x.count(1), r + 1);
        }
        Due.due("a seventh", Due.room(x, "hush 9"), -4);
        Due.due("the sixth holds", x.sitting(2), 15);
        Due.due("six", x.count(1), 6);
    }

    private static void promise8Full() {
        Due.words(8, "FULL: there are 6 (THE TEXT stays)");
        WhoSitsBy x = new WhoSitsBy();
        for (int r = 0; r < 6; r++) {
            Due.room(x, "hush 1");
        }
        Due.due("an empty seventh", x.room(), -4);
        Due.due("a seventh", Due.room(x, "hush 9"), -4);
        Due.due("the text stays", x.count(3), 6);
        Due.due("goes on", x.feed(';'), 7);
        Due.words(8, "the first that a call's words name");
        Due.due("full ahead of the fault", Due.room(x, "??"), -4);
        Due.due("it stays, too", x.count(3), 9);
    }

    private static void promise8Hush() {
        Due.words(8, "hush: the last one's n (5 without).");
        WhoSitsBy x = new WhoSitsBy();
        Due.due("no room", x.sitting(2), 5);
        Due.room(x, "bar a=1;learn 7 a=0");
        Due.due("a room without", x.sitting(2), 5);
        Due.room(x, "hush 3;hush 40;bar a=1");
        Due.due("the last of two", x.sitting(2), 40);
        Due.room(x, "hush 99;hush 0");
        Due.due("hush 0", x.sitting(2), 0);
        Due.room(x, "hush 0;bar a=1;hush 99");
        Due.due("hush 99", x.sitting(2), 99);
        Due.room(x, "loud 8 a=1");
        Due.due("without again", x.sitting(2), 5);
    }

    /** What 0 of pair(a, b, row) by a room of one learn 1 with the expression. */
    private static int learns(String expression, int a, int b, int row) {
        WhoSitsBy x = new WhoSitsBy();
        x.pupil(0, 0, 3, 5, 1);
        x.pupil(0, 0, 9, 8, 1);
        x.pupil(0, 0, 0, 1, 2);
        x.pupil(0, 0, 9, 8, 0);
        x.name(0, 1);
        x.name(1, 0);
        x.name(2, 0);
        Due.room(x, "learn 1 " + expression);
        return x.pair(a, b, row, 0);
    }

    private static void holds(String expression, int a, int b, int row, boolean is) {
        Due.due(expression + " of " + a + " by " + b + " in " + row, learns(expression, a, b, row), is ? 1 : 0);
    }

    /** A letter's number is so much, and neither less nor more. */
    private static void number(char letter, int a, int b, int row, int due) {
        for (int n = Math.max(0, due - 1); n <= due + 1; n++) {
            holds(letter + "=" + n, a, b, row, n == due);
            holds(letter + "<" + n, a, b, row, due < n);
            holds(letter + ">" + n, a, b, row, due > n);
        }
    }

    private static void promise9Letters() {
        Due.words(9, "a, b their numbers");
        number('a', 1, 2, 0, 1);
        number('a', 0, 2, 1, 0);
        number('b', 1, 2, 1, 2);
        number('b', 3, 0, 0, 0);
        Due.words(9, "k how much more b KNOWS than a (0, if not)");
        number('k', 0, 1, 0, 3);
        number('k', 1, 0, 0, 0);
        number('k', 1, 3, 0, 0);
        number('k', 2, 1, 1, 7);
        number('k', 1, 2, 1, 0);
        Due.words(9, "j TALKS of both together");
        number('j', 0, 1, 0, 12);
        number('j', 1, 3, 1, 18);
        number('j', 2, 0, 0, 3);
        Due.words(9, "t 1, if they have one TONGUE, else 0");
        number('t', 0, 1, 0, 1);
        number('t', 0, 2, 0, 0);
        number('t', 3, 0, 0, 0);
        Due.words(9, "w how often they name one another (0 .. 2)");
        number('w', 0, 1, 0, 2);
        number('w', 0, 2, 0, 1);
        number('w', 2, 0, 0, 1);
        number('w', 1, 2, 0, 0);
        number('w', 3, 2, 0, 0);
        Due.words(9, "r the ROW.");
        number('r', 0, 1, 0, 0);
        number('r', 0, 1, 1, 1);
    }

    private static void promise9Rows() {
        Due.words(9, "if they were NEIGHBOURS in a ROW (0, 1), all others being where they are");
        WhoSitsBy x = Due.withPupils(3);
        Due.room(x, "learn 3 r=0;loud 4 r=1;bar r=1");
        int[][] due = {{3, 0, 0, 3}, {0, 4, 1, -4}};
        for (int seat = 0; seat < 8; seat++) {
            x.sit(0, seat);
            for (int row = 0; row < 2; row++) {
                for (int what = 0; what < 4; what++) {
                    Due.due("from seat " + seat + ", row " + row + ", " + what, x.pair(0, 1, row, what),
                        due[row][what]);
                }
            }
        }
    }

    private static void promise9MoreOrLess() {
        Due.words(9, "a letter, < or = or >, a number (1 or 2 digits)");
        holds("j<03", 2, 0, 0, false);
        holds("j<04", 2, 0, 0, true);
        holds("j=12", 1, 0, 1, true);
        holds("j=1", 1, 0, 1, false);
        holds("a<99", 2, 1, 1, true);
        holds("a>00", 0, 1, 1, false);
        holds("j>17", 1, 3, 0, true);
    }

    private static void promise9Sentences() {
        Due.words(9, "E: T or T|E. T: F or F&T. F: !F, (E)");
        holds("!a=1", 1, 0, 0, false);
        holds("!!a=1", 1, 0, 0, true);
        holds("!a=1|a=1", 1, 0, 0, true);
        holds("!(a=1|b=1)", 1, 0, 0, false);
        holds("!a=0&!b=0", 1, 2, 0, true);
        holds("!a=1&b=7", 1, 0, 0, false);
        holds("a=1|a=2&b=7", 1, 0, 0, true);
        holds("(a=1|a=2)&b=7", 1, 0, 0, false);
        holds("b=7&a=2|a=1", 1, 0, 0, true);
        holds("a=7|b=7|a=1", 1, 0, 0, true);
        holds("a=7|b=7|k=7", 1, 0, 0, false);
        holds("a=1&b=0&r=1", 1, 0, 0, false);
        holds("a=1&b=0&r=1", 1, 0, 1, true);
        holds("((((a=1))))", 1, 0, 0, true);
        holds("!(!(a=1&b=0))", 1, 0, 0, true);
        holds("!!!!a=1", 0, 1, 0, false);
        holds("a=0&(b=1|a<0)", 0, 1, 0, true);
        holds("a<0|a=0&!a<0", 0, 1, 0, true);
        holds("!(a<0|b<0)&!r<0", 0, 1, 0, true);
    }

    private static void promise9Together() {
        Due.words(9, "LEARNS of a by b: the n of all learn whose E holds, together. LOUD: likewise by loud.");
        WhoSitsBy x = Due.withPupils(2);
        Due.room(x, "learn 5 a=0;loud 2 a=0;learn 60 r=1;loud 7 b=1&r=1;learn 9 a=5");
        Due.due("learns, front", x.pair(0, 1, 0, 0), 5);
        Due.due("learns, back", x.pair(0, 1, 1, 0), 65);
        Due.due("loud, front", x.pair(0, 1, 0, 1), 2);
        Due.due("loud, back", x.pair(0, 1, 1, 1), 9);
        Due.due("worth, back", x.pair(0, 1, 1, 3), 56);
        Due.due("learns, the other", x.pair(1, 0, 1, 0), 60);
        Due.due("loud, the other", x.pair(1, 0, 1, 1), 0);
        Due.room(x, "learn 99 a<9" + ";learn 99 a<9".repeat(6));
        Due.due("seven times the most", x.pair(0, 1, 0, 0), 693);
        Due.room(x, "loud 99 a<9" + ";loud 99 a<9".repeat(7));
        Due.due("loud, eight times", x.pair(0, 1, 0, 1), 792);
        Due.due("worth below 0", x.pair(0, 1, 0, 3), -792);
        Due.room(x, "learn 0 a<9;loud 00 a<9");
        Due.due("nothing learnt", x.pair(0, 1, 0, 3), 0);
    }

    private static void promise9Bars() {
        Due.words(9, "BARRED: if E of some bar holds, of a by b or of b by a.");
        WhoSitsBy x = Due.withPupils(3);
        Due.due("no clauses", x.pair(0, 1, 0, 2), 0);
        Due.room(x, "bar a=0&b=1;bar a=2&r=1");
        Due.due("of a by b", x.pair(0, 1, 0, 2), 1);
        Due.due("of b by a", x.pair(1, 0, 0, 2), 1);
        Due.due("another bar, front", x.pair(1, 2, 0, 2), 0);
        Due.due("another bar, back", x.pair(1, 2, 1, 2), 1);
        Due.due("neither", x.pair(0, 2, 0, 2), 0);
        Due.due("nothing is learnt by a bar", x.pair(0, 1, 0, 0), 0);
        Due.due("nor loud", x.pair(0, 1, 0, 1), 0);
        Due.room(x, "learn 3 a=0&b=1;loud 4 a=0&b=1");
        Due.due("barred by no learn, no loud", x.pair(0, 1, 0, 2), 0);
    }

    /** Worth of a pupil of a kind (v 5, talks 3, knows 4) by one who knows so much. */
    private static int worth(int kind, int knows, boolean hoped, boolean wished, boolean other) {
        WhoSitsBy x = new WhoSitsBy();
        x.pupil(kind, 5, 3, 4, 0);
        x.pupil(0, 7, 1, knows, 0);
        x.pupil(0, 7, 1, 9, 0);
        if (hoped) {
            x.name(0, 1);
        }
        if (wished) {
            x.name(1, 0);
        }
        if (other) {
            x.name(2, 0);
        }
        Due.room(x, "learn 20 r=0;loud 1 b=1");
        return x.pair(0, 1, 0, 3);
    }

    private static void promise9Helping() {
        Due.words(9, "PUPIL: LEARNS less LOUD.");
        Due.due("who knows less, and names", worth(0, 0, true, true, false), 19);
        Due.words(9, "HELPING: that, and v more, if b KNOWS less than a.");
        Due.due("less", worth(1, 3, false, false, false), 24);
        Due.due("nothing", worth(1, 0, false, false, false), 24);
        Due.due("as much", worth(1, 4, true, true, false), 19);
        Due.due("more", worth(1, 5, true, true, false), 19);
    }

    private static void promise9Talker() {
        Due.words(9, "TALKER: as PUPIL, less TALKS of a.");
        Due.due("a talker", worth(2, 0, true, true, false), 16);
        WhoSitsBy x = Due.withPupils(1);
        x.pupil(2, 5, 9, 0, 0);
        x.pupil(2, 5, 0, 0, 0);
        Due.due("who talks most", x.pair(1, 0, 0, 3), -9);
        Due.due("who talks least", x.pair(2, 1, 0, 3), 0);
    }

    private static void promise9Wished() {
        Due.words(9, "WISHED: as PUPIL, and v more, if b names a.");
        Due.due("b names a", worth(3, 0, false, true, false), 24);
        Due.due("a names b, another names a", worth(3, 0, true, false, true), 19);
        Due.due("nobody names", worth(3, 0, false, false, false), 19);
    }

    private static void promise9Left() {
        Due.words(9, "LEFT: as HELPING, and v more, if nobody else names a.");
        Due.due("nobody, and helping", worth(4, 3, false, false, false), 29);
        Due.due("nobody, b knows as much", worth(4, 4, false, false, false), 24);
        Due.due("b alone", worth(4, 4, false, true, false), 24);
        Due.due("another", worth(4, 4, false, false, true), 19);
        Due.due("both, and helping", worth(4, 3, false, true, true), 24);
        Due.due("a names b", worth(4, 4, true, false, false), 24);
    }

    private static void promise9Hoped() {
        Due.words(9, "HOPED: as WISHED, and v more, if a names b.");
        Due.due("a names b", worth(6, 0, true, false, false), 24);
        Due.due("b names a", worth(6, 0, false, true, false), 24);
        Due.due("both", worth(6, 0, true, true, false), 29);
        Due.due("neither", worth(6, 0, false, false, true), 19);
    }

    private static void promise9Carrier() {
        Due.words(9, "CARRIER: as TALKER, less v for each one who sits at the other DESK of the ROW of a.");
        Due.due("one there", worth(5, 0, true, true, false), 11);
        WhoSitsBy x = new WhoSitsBy();
        x.pupil(5, 4, 2, 0, 0);
        x.pupil(0, 9, 9, 0, 0);
        Due.due("nobody there", x.pair(0, 1, 0, 3), -2);
        x.pupil(0, 0, 0, 0, 0);
        Due.due("one", x.pair(0, 1, 0, 3), -6);
        x.pupil(0, 0, 0, 0, 0);
        Due.due("two", x.pair(0, 1, 0, 3), -10);
        x.sit(2, 4);
        x.sit(3, 5);
        Due.due("two in the other row", x.pair(0, 1, 0, 3), -2);
        Due.due("others bear nothing", x.pair(1, 0, 0, 3), 0);
    }

    private static void promise9CarrierNow() {
        Due.words(9, "(of CARRIERS by who sits now at the other DESK of the ROW where a sits)");
        WhoSitsBy x = new WhoSitsBy();
        x.pupil(5, 4, 2, 0, 0);
        for (int i = 1; i < 4; i++) {
            x.pupil(0, 0, 0, 0, 0);
        }
        Due.due("two at the other desk", x.pair(0, 1, 0, 3), -10);
        Due.due("told in the back, still the row where a sits", x.pair(0, 1, 1, 3), -10);
        Due.due("b at the other desk now", x.pair(0, 2, 0, 3), -10);
        x.sit(3, 6);
        Due.due("one at the other desk", x.pair(0, 1, 0, 3), -6);
        x.sit(0, 4);
        Due.due("one at the other desk in the back", x.pair(0, 1, 0, 3), -6);
        x.sit(3, 0);
        Due.due("nobody at the other desk", x.pair(0, 1, 0, 3), -2);
        Due.due("others bear nothing", x.pair(1, 0, 0, 3), 0);
        x.sit(0, 3);
        Due.due("3 and 1 at the first desk, 0 at the second", x.pair(0, 1, 0, 3), -10);
        x.sit(3, 7);
        Due.due("2 beside, 1 at the first", x.pair(0, 1, 0, 3), -6);
    }

    private static void promise9None() {
        Due.words(9, "-100001: NONE: pupils, row, what");
        WhoSitsBy x = Due.withPupils(2);
        int[] wrong = {-1, 4, Integer.MIN_VALUE, Integer.MAX_VALUE};
        Due.due("pupil 2", x.pair(2, 0, 0, 0), -100001);
        Due.due("by pupil 2", x.pair(0, 2, 0, 0), -100001);
        Due.due("row 2", x.pair(0, 1, 2, 0), -100001);
        for (int n : wrong) {
            Due.due("pupil " + n, x.pair(n, 0, 0, 0), -100001);
            Due.due("by pupil " + n, x.pair(0, n, 0, 0), -100001);
            Due.due("row " + n, x.pair(0, 1, n, 0), -100001);
            Due.due("what " + n, x.pair(0, 1, 0, n), -100001);
        }
    }

    private static void promise9OnePupil() {
        Due.words(9, "-100002: BAD: one PUPIL.");
        WhoSitsBy x = Due.withPupils(2);
        for (int what = 0; what < 4; what++) {
            Due.due("0 by 0, " + what, x.pair(0, 0, 0, what), -100002);
            Due.due("1 by 1, " + what, x.pair(1, 1, 1, what), -100002);
        }
        Due.words(9, "the first that a call's words name");
        Due.due("what ahead of one pupil", x.pair(1, 1, 0, 4), -100001);
        Due.due("row ahead of one pupil", x.pair(1, 1, 2, 0), -100001);
        Due.due("nobody ahead of one pupil", x.pair(2, 2, 0, 0), -100001);
    }
}
