/** What the tests share: comparing answers, and writing texts into the input buffer. */
final class Check {
    /** A call whose answer, or whose exception, is looked at. */
    interface Call {
        long answer();
    }

    private static int looked = 0;
    private static int wrong = 0;
    private static int sentences = 0;
    private static int lookedAhead = 0;
    private static String sentence = "";

    private Check() {
    }

    /** Names the sentence of the document that the answers from here on are due to, and the promises that it binds. */
    static void sentence(String promises, String text) {
        endSentence();
        sentences++;
        lookedAhead = looked;
        sentence = "promise " + promises + ", \"" + text + "\": ";
    }

    private static void endSentence() {
        if (sentences > 0 && looked == lookedAhead) {
            tell("no answer was looked at");
        }
    }

    static void due(String what, long got, long want) {
        looked++;
        if (got != want) {
            tell(what + " answered " + got + ", due is " + want);
        }
    }

    /** What is due of a cell is its colour * 100 + its wetness * 10 + 1 if it has a spar. */
    static void dueCell(String what, KitePainter kite, int x, int y, int want) {
        due(what + " at (" + x + ", " + y + ")", kite.cell(x, y, 0) * 100 + kite.cell(x, y, 1) * 10 + kite.cell(x, y, 2), want);
    }

    static void dueFloat(String what, float got, float want) {
        looked++;
        if (got != want) {
            tell(what + " answered " + got + ", due is " + want);
        }
    }

    static void dueSame(String what, String got, String want) {
        looked++;
        if (!got.equals(want)) {
            tell(what + " told\n    " + got + "\n  due is\n    " + want);
        }
    }

    static void dueThrow(String what, Class<? extends RuntimeException> want, Call call) {
        looked++;
        try {
            long got = call.answer();
            tell(what + " answered " + got + ", due is " + want.getSimpleName());
        } catch (RuntimeException e) {
            if (e.getClass() != want) {
                tell(what + " threw " + e + ", due is " + want.getSimpleName());
            }
        }
    }

    static void dueOutside(String what, Call call) {
        dueThrow(what, IndexOutOfBoundsException.class, call);
    }

    static void dueIllegal(String what, Call call) {
        dueThrow(what, IllegalArgumentException.class, call);
    }

    static void dueState(String what, Call call) {
        dueThrow(what, IllegalStateException.class, call);
    }

    /** Counts an answer that the caller compares. */
    static void look() {
        looked++;
    }

    static void tell(String fault) {
        wrong++;
        System.out.println(sentence + fault);
    }

    /** Prints what came out and ends the program with 1 if an answer was wrong. */
    static void end(String test) {
        endSentence();
        String ofSentences = sentences > 0 ? sentences + " sentences, " : "";
        System.out.println(test + ": " + ofSentences + looked + " answers looked at, " + wrong + " wrong");
        if (wrong != 0 || looked == 0) {
            System.exit(1);
        }
    }

    /** Appends a text, filled up with spaces to a multiple of 20 bytes; answers what the last append answered. */
    static int append(KitePainter kite, String text) {
        int length = 0;
        for (int at = 0; at < text.length(); at += 20) {
            length = kite.append(word(text, at), word(text, at + 4), word(text, at + 8), word(text, at + 12),
                    word(text, at + 16));
        }
        return length;
    }

    /** Loads a text that has no more than 600 bytes. */
    static int load(KitePainter kite, String text) {
        append(kite, text);
        return kite.load(text.length());
    }

    /** A new object that has loaded a text. */
    static KitePainter kite(String text) {
        KitePainter kite = new KitePainter();
        int answer = load(kite, text);
        if (answer < 1) {
            tell("load of \"" + text + "\" answered " + answer);
        }
        return kite;
    }

    /** A text without an error, of so many cells. */
    static void dueLoaded(String text, int cells) {
        KitePainter kite = new KitePainter();
        due("load of \"" + text + "\"", load(kite, text), cells);
        due("errorOffset() of \"" + text + "\"", kite.errorOffset(), -1);
    }

    static void dueError(String text, int code, int offset) {
        KitePainter kite = new KitePainter();
        due("load of \"" + text + "\"", load(kite, text), code);
        due("errorOffset() of \"" + text + "\"", kite.errorOffset(), offset);
        due("changes by \"" + text + "\"", kite.undo(), -1);
    }

    static void dueSyntax(String text, int offset) {
        dueError(text, KitePainter.SYNTAX_ERROR, offset);
    }

    static void dueRange(String text, int offset) {
        dueError(text, KitePainter.OUT_OF_RANGE, offset);
    }

    private static int word(String text, int at) {
        int word = 0;
        for (int i = at; i < at + 4; i++) {
            word = word << 8 | (i < text.length() ? text.charAt(i) & 255 : ' ');
        }
        return word;
    }
}
