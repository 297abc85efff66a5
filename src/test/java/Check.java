/** What every test needs: counting wrong answers, and giving a text to a cellar. */
final class Check {
    private static int wrong = 0;
    private static int asked = 0;
    private static String sentence = "";

    private Check() {
    }

    /** The document's sentence that the answers from here on are asked for. */
    static void says(String words) {
        sentence = "\"" + words + "\": ";
    }

    static void due(String call, long got, long want) {
        asked++;
        if (got != want) {
            wrong++;
            System.out.println(sentence + call + " answered " + got + ", due is " + want);
        }
    }

    static void due(String call, boolean got, boolean want) {
        due(call, got ? 1 : 0, want ? 1 : 0);
    }

    static void finish() {
        System.out.println(asked + " answers, " + wrong + " wrong");
        if (wrong != 0) {
            System.exit(1);
        }
    }

    /** Puts a text on the (empty) tape. */
    static void put(CheeseCellar x, String text) {
        for (int i = 0; i < text.length(); i += 20) {
            x.feed(word(text, i), word(text, i + 4), word(text, i + 8), word(text, i + 12), word(text, i + 16));
        }
        x.end(text.length());
    }

    static int give(CheeseCellar x, String text) {
        put(x, text);
        return x.orders();
    }

    static int word(String text, int at) {
        int word = 0;
        for (int i = at; i < at + 4; i++) {
            word = word << 8 | (i < text.length() ? text.charAt(i) & 255 : 0);
        }
        return word;
    }

    /** The text is read, and has so many lines. */
    static void good(String text, int lines) {
        CheeseCellar x = new CheeseCellar();
        due("orders of '" + text + "'", give(x, text), lines);
        due("fault(0) of '" + text + "'", x.fault(0), 0);
        due("fault(1) of '" + text + "'", x.fault(1), -1);
        due("about(3) of '" + text + "'", x.about(3), lines);
    }

    static void bad(String text, int fault, int place) {
        CheeseCellar x = new CheeseCellar();
        due("orders of '" + text + "'", give(x, text), -1);
        due("fault(0) of '" + text + "'", x.fault(0), fault);
        due("fault(1) of '" + text + "'", x.fault(1), place);
        due("about(3) of '" + text + "'", x.about(3), 0);
    }

    /** The numbers next to 0 .. most on both sides, and the farthest ones. */
    static int[] outside(int most) {
        return outside(0, most);
    }

    static int[] outside(int least, int most) {
        return new int[] {Integer.MIN_VALUE, least - 2, least - 1, most + 1, most + 2, Integer.MAX_VALUE};
    }

    /** A wheel of one litre of milk 0. */
    static int small(CheeseCellar x, int kind, int shelf) {
        return x.wheel(kind, shelf, 0, 1, -1, 0, -1, 0);
    }
}
