/** What an object tells of itself, as a text, so that the traces of a call can be looked for. */
final class Traces {
    /** A call on any object. */
    interface Call {
        long on(KitePainter kite);
    }

    private static final int MIN = Integer.MIN_VALUE;
    private static final int MAX = Integer.MAX_VALUE;

    /** Places that are no cells of the sail of the busy kite: beside each row, above and below it, and far away. */
    static final int[][] OUTSIDE = {{-1, 0}, {7, 0}, {0, 1}, {6, 1}, {-1, 1}, {7, 1}, {-1, 2}, {7, 2}, {0, 3}, {1, 3}, {5, 3},
        {6, 3}, {3, -1}, {0, -1}, {3, 4}, {0, 4}, {MIN, 0}, {MAX, 0}, {3, MIN}, {3, MAX}, {MIN, MIN}, {MAX, MAX}};

    /** The first and the last cell of each row of the busy kite; all of them are bare, dry and without spars. */
    static final int[][] BARE_EDGES = {{0, 0}, {6, 0}, {1, 1}, {5, 1}, {0, 2}, {6, 2}, {2, 3}, {4, 3}};

    private Traces() {
    }

    /**
     * Something of all: patterns, a mix, three changes, an error offset, and 20 bytes in the buffer. Of its 22 cells three
     * have spars, (2, 0) to (2, 2), and four are wet: (3, 1), and around it (3, 0), (4, 1) and (3, 2). The balance is -11.
     */
    static KitePainter busyKite() {
        KitePainter kite = Check.kite("kite 7 4;reach 3 2 3 1;cloth 3;wood 7;colour 1 10;mix 1 2 5;spar down 2 0 3;"
                + "pattern 102 220;pattern 6;");
        Check.load(kite, "kite 7 x;");
        kite.paint(3, 1, 1, 9, false);
        kite.pass(1);
        Check.append(kite, "kite 3 2;cloth 4;");
        return kite;
    }

    /** Cells, mixes, patterns and the error offset. */
    static String now(KitePainter kite) {
        StringBuilder told = new StringBuilder();
        told.append("checksum ").append(kite.checksum()).append(" offset ").append(kite.errorOffset()).append(" mixes");
        for (int a = 1; a <= 6; a++) {
            for (int b = a + 1; b <= 6; b++) {
                told.append(' ').append(kite.mix(a, b));
            }
        }
        told.append(" patterns");
        int patterns = kite.state(11);
        for (int pattern = 0; pattern < patterns; pattern++) {
            for (int what = 0; what <= 2; what++) {
                told.append(' ').append(kite.pattern(pattern, what));
            }
        }
        return told.append('\n').toString();
    }

    /** The input buffer, too, and all that undo gives back; nothing of the object is left then. */
    static String all(KitePainter kite) {
        StringBuilder told = new StringBuilder(now(kite));
        for (int left = kite.undo(); left >= 0; left = kite.undo()) {
            told.append("undo ").append(left).append(' ').append(now(kite));
        }
        return told.append("load ").append(loadOfBuffer(kite)).append(' ').append(now(kite)).toString();
    }

    private static String loadOfBuffer(KitePainter kite) {
        try {
            return String.valueOf(kite.load(20));
        } catch (IllegalArgumentException e) {
            return "throws";
        }
    }

    /** A call that throws and leaves no trace. */
    static void dueRefused(String what, Class<? extends RuntimeException> exception, Call call) {
        KitePainter kite = busyKite();
        Check.dueThrow(what, exception, () -> call.on(kite));
        Check.dueSame(what + " that throws", all(kite), all(busyKite()));
    }

    static void dueOutside(String what, Call call) {
        dueRefused(what, IndexOutOfBoundsException.class, call);
    }

    static void dueIllegal(String what, Call call) {
        dueRefused(what, IllegalArgumentException.class, call);
    }

    static void dueState(String what, Call call) {
        dueRefused(what, IllegalStateException.class, call);
    }

    /** A call that answers and leaves no trace. */
    static void dueTold(String what, long want, Call call) {
        KitePainter kite = busyKite();
        Check.due(what, call.on(kite), want);
        Check.dueSame(what + " that tells something alone", all(kite), all(busyKite()));
    }

    /** A call that is a change: undo takes back all of it, and nothing else. */
    static void dueChange(String what, long want, Call call) {
        KitePainter kite = busyKite();
        Check.due(what, call.on(kite), want);
        Check.due("undo() of " + what, kite.undo(), 3);
        Check.dueSame("what is left of " + what, all(kite), all(busyKite()));
    }
}
