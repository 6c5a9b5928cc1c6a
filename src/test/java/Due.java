/** What the tests share: answers that are due, the words that ask for them, and texts fed sign by sign. */
final class Due {
    private static int passed = 0;
    private static int failed = 0;
    private static String asking = "";

    private Due() {
    }

    /** The words of the document, at a promise or in its terms, that what follows tests. */
    static void words(int promise, String words) {
        asking = "promise " + promise + ", \"" + words + "\": ";
    }

    /** The rule of LANGUAGE.md that what follows tests. */
    static void rule(int rule) {
        asking = "LANGUAGE.md, rule " + rule + ": ";
    }

    static void due(String what, long got, long want) {
        if (got == want) {
            passed++;
            return;
        }
        failed++;
        System.out.println(asking + what + " answered " + got + ", due is " + want);
    }

    static void feed(WhoSitsBy x, String text) {
        for (int i = 0; i < text.length(); i++) {
            x.feed(text.charAt(i));
        }
    }

    /** Feeds a text, and answers what room() says of it. */
    static int room(WhoSitsBy x, String text) {
        feed(x, text);
        return x.room();
    }

    /** A new object with so many pupils of kind 0 that are all alike. */
    static WhoSitsBy withPupils(int n) {
        WhoSitsBy x = new WhoSitsBy();
        for (int i = 0; i < n; i++) {
            x.pupil(0, 0, 0, 0, 0);
        }
        return x;
    }

    static void end(String test) {
        System.out.println(test + ": " + passed + " answers as due, " + failed + " not");
        if (failed != 0) {
            System.exit(1);
        }
    }
}
