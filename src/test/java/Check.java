/** What the tests share: comparing answers, and writing texts into the input buffer. */
final class Check {
    /** A call whose answer, or whose exception, is looked at. */
    interface Call {
        long answer();
    }

    private static int looked = 0;
    private static int wrong = 0;

    private Check() {
    }

    static void due(String what, long got, long want) {
        looked++;
        if (got != want) {
            tell(what + " answered " + got + ", due is " + want);
        }
    }

    static void dueFloat(String what, float got, float want) {
        looked++;
        if (got != want) {
            tell(what + " answered " + got + ", due is " + want);
        }
    }

    static void dueThrow(String what, Class<? extends RuntimeException> want, Call call) {
        looked++;
        try {
            long got = call.answer();
            tell(what + " answered " + got + ", due is " + want.getSimpleName());
        } catch (RuntimeException e) {
            if (e.getClass() != want) {
                tell(what + " threw " + e + ", due is " + want.getSimpleName());
            }
        }
    }

    static void dueOutside(String what, Call call) {
        dueThrow(what, IndexOutOfBoundsException.class, call);
    }

    static void dueIllegal(String what, Call call) {
        dueThrow(what, IllegalArgumentException.class, call);
    }

    static void dueState(String what, Call call) {
        dueThrow(what, IllegalStateException.class, call);
    }

    /** Counts an answer that the caller compares. */
    static void look() {
        looked++;
    }

    static void tell(String fault) {
        wrong++;
        System.out.println(fault);
    }

    /** Prints what came out and ends the program with 1 if an answer was wrong. */
    static void end(String test) {
        System.out.println(test + ": " + looked + " answers looked at, " + wrong + " wrong");
        if (wrong != 0 || looked == 0) {
            System.exit(1);
        }
    }

    /** Appends a text, filled up with spaces to a multiple of 20 bytes; answers what the last append answered. */
    static int append(KitePainter kite, String text) {
        int length = 0;
        for (int at = 0; at < text.length(); at += 20) {
            length = kite.append(word(text, at), word(text, at + 4), word(text, at + 8), word(text, at + 12),
                    word(text, at + 16));
        }
        return length;
    }

    /** Loads a text that has no more than 600 bytes. */
    static int load(KitePainter kite, String text) {
        append(kite, text);
        return kite.load(text.length());
    }

    /** A new object that has loaded a text. */
    static KitePainter kite(String text) {
        KitePainter kite = new KitePainter();
        int answer = load(kite, text);
        if (answer < 1) {
            tell("load of \"" + text + "\" answered " + answer);
        }
        return kite;
    }

    private static int word(String text, int at) {
        int word = 0;
        for (int i = at; i < at + 4; i++) {
            word = word << 8 | (i < text.length() ? text.charAt(i) & 255 : ' ');
        }
        return word;
    }
}
