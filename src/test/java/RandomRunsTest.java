/** All promises: long runs of calls on the program and on PlainKite, whose answers and exceptions must be the same. */
final class RandomRunsTest {
    private static final int RUNS = 400;
    /** An object is used for no more calls. */
    private static final int CALLS = 512;

    private long seed;
    private KitePainter kite;
    private PlainKite plain;
    private int calls;

    private RandomRunsTest(long seed) {
        this.seed = seed * 2862933555777941757L + 3037000493L;
    }

    /** A call on both, or on one of them; the answer is a text, so that exceptions can be answers. */
    private interface Call {
        Object answer();
    }

    public static void main(String[] args) {
        int calls = 0;
        for (int run = 1; run <= RUNS; run++) {
            calls += new RandomRunsTest(run).run(run);
        }
        Check.due("calls of all runs", calls, RUNS * CALLS);
        Check.end("RandomRunsTest");
    }

    private int below(int bound) {
        seed = seed * 6364136223846793005L + 1442695040888963407L;
        return (int) ((seed >>> 33) % bound);
    }

    private boolean chance(int percent) {
        return below(100) < percent;
    }

    private int run(int run) {
        kite = new KitePainter();
        plain = new PlainKite();
        calls = 0;
        while (calls < CALLS) {
            String fault = chance(4) ? load() : chance(55) ? change() : tell();
            if (fault == null && chance(30)) {
                fault = same("checksum()", () -> kite.checksum(), () -> plain.checksum());
            }
            if (fault != null) {
                Check.tell("run " + run + ", call " + calls + ": " + fault);
                return calls;
            }
        }
        return calls;
    }

    /** One call on both of them, if one is left. */
    private String same(String what, Call got, Call want) {
        if (calls >= CALLS) {
            return null;
        }
        calls++;
        Check.look();
        String answer = told(got);
        String due = told(want);
        return answer.equals(due) ? null : what + " answered " + answer + ", due is " + due;
    }

    private static String told(Call call) {
        try {
            Object answer = call.answer();
            return answer instanceof Float f ? "float " + Float.floatToIntBits(f) : String.valueOf(answer);
        } catch (RuntimeException e) {
            return e.getClass().getName();
        }
    }

    /** Mostly a number in the range, now and then one beside it or far from it. */
    private int about(int least, int greatest) {
        if (chance(96)) {
            return least + below(greatest - least + 1);
        }
        int[] others = {least - 1, greatest + 1, -1, Integer.MIN_VALUE, Integer.MAX_VALUE, Integer.MIN_VALUE + 3, 100};
        return others[below(others.length)];
    }

    private int someX() {
        return about(0, (int) plain.state(0) - 1);
    }

    private int someY() {
        return about(0, (int) plain.state(1) - 1);
    }

    private String load() {
        String text = new RandomText().make();
        StringBuilder filled = new StringBuilder(text);
        while (filled.length() % 20 != 0) {
            filled.append(chance(50) ? ' ' : (char) below(256));
        }
        for (int at = 0; at < filled.length(); at += 20) {
            int[] w = new int[5];
            for (int i = 0; i < 20; i++) {
                w[i / 4] = w[i / 4] << 8 | filled.charAt(at + i);
            }
            String fault = same("append", () -> kite.append(w[0], w[1], w[2], w[3], w[4]), () -> plain.append(w));
            if (fault != null) {
                return fault;
            }
        }
        if (chance(5)) {
            return null;
        }
        int length = chance(5) ? about(0, filled.length()) : Math.min(600, text.length());
        String fault = same("load of " + text, () -> kite.load(length), () -> plain.load(length));
        return fault != null ? fault : same("errorOffset of " + text, () -> kite.errorOffset(), () -> plain.errorOffset());
    }

    private String change() {
        int x = someX();
        int y = someY();
        int length = about(1, 15);
        int colour = about(1, 6);
        int wetness = about(1, 9);
        boolean flag = chance(50);
        String at = "(" + x + ", " + y + ", ..)";
        switch (below(16)) {
            case 0, 1:
                int ticks = chance(80) ? about(1, 3) : about(1, 20);
                return same("pass(" + ticks + ")", () -> kite.pass(ticks), () -> plain.pass(ticks));
            case 2, 3, 4, 5:
                return same("paint" + at, () -> kite.paint(x, y, colour, wetness, flag),
                        () -> plain.paint(x, y, colour, wetness, flag));
            case 6, 7:
                int way = about(0, 3);
                return same("stroke" + at, () -> kite.stroke(x, y, way, length, colour),
                        () -> plain.stroke(x, y, way, length, colour));
            case 8, 9, 10:
                int pattern = about(0, 2);
                return same("stamp" + at, () -> kite.stamp(pattern, x, y, flag), () -> plain.stamp(pattern, x, y, flag));
            case 11:
                int cells = chance(70) ? about(1, 3) : length;
                return same("spar" + at, () -> kite.spar(x, y, flag, cells), () -> plain.spar(x, y, flag, cells));
            case 12:
                return same("strip" + at, () -> kite.strip(x, y), () -> plain.strip(x, y));
            case 13:
                return same("wash" + at, () -> kite.wash(x, y), () -> plain.wash(x, y));
            default:
                return same("undo()", () -> kite.undo(), () -> plain.undo());
        }
    }

    private String tell() {
        int x = someX();
        int y = someY();
        int colour = about(0, 6);
        String at = "(" + x + ", " + y + ")";
        switch (below(14)) {
            case 0:
                int number = about(0, 12);
                return same("state(" + number + ")", () -> kite.state(number), () -> plain.state(number));
            case 1:
                int what = about(0, 4);
                return same("cell" + at, () -> kite.cell(x, y, what), () -> plain.cell(x, y, what));
            case 2:
                int other = about(1, 6);
                return same("mix(" + colour + ", " + other + ")", () -> kite.mix(colour, other), () -> plain.mix(colour, other));
            case 3:
                return same("count(" + colour + ")", () -> kite.count(colour), () -> plain.count(colour));
            case 4:
                return same("unlike()", () -> kite.unlike(), () -> plain.unlike());
            case 5:
                return same("region" + at, () -> kite.region(x, y), () -> plain.region(x, y));
            case 6:
                return same("regions(" + colour + ")", () -> kite.regions(colour), () -> plain.regions(colour));
            case 7:
                return same("bleeds" + at, () -> kite.bleeds(x, y), () -> plain.bleeds(x, y));
            case 8:
                return same("driesIn()", () -> kite.driesIn(), () -> plain.driesIn());
            case 9, 10:
                int ticks = chance(70) ? about(1, 6) : about(1, 40);
                int then = about(0, 4);
                return same("foretold(" + ticks + ", " + then + ")", () -> kite.foretold(ticks, then),
                        () -> plain.foretold(ticks, then));
            case 11:
                return same("evens(" + colour + ")", () -> kite.evens(colour), () -> plain.evens(colour));
            case 12:
                int pattern = about(0, 2);
                int detail = about(0, 2);
                return same("pattern(" + pattern + ", " + detail + ")", () -> kite.pattern(pattern, detail),
                        () -> plain.pattern(pattern, detail));
            default:
                return same("covered()", () -> kite.covered(), () -> plain.covered());
        }
    }

    /** A setup text: mostly one that follows the grammar, with a fault now and then. */
    private final class RandomText {
        private final StringBuilder text = new StringBuilder();
        private int width;
        private int height;

        String make() {
            token("kite");
            width = chance(95) ? 2 * below(8) + 1 : below(18);
            height = chance(95) ? 1 + below(12) : below(15);
            number(width);
            number(height);
            semicolon();
            int statements = chance(80) ? below(14) : below(60);
            if (chance(70)) {
                statement(0);
            }
            for (int i = 0; i < statements; i++) {
                statement(chance(4) ? 0 : chance(10) ? 1 + below(2) : 3 + below(4));
            }
            while (chance(25)) {
                text.append(' ');
            }
            for (int faults = chance(30) ? 1 + below(2) : 0; faults > 0 && text.length() > 0; faults--) {
                spoil();
            }
            if (text.length() > 600 && chance(80)) {
                text.setLength(600);
            }
            return text.toString();
        }

        private void token(String token) {
            while (chance(8)) {
                text.append(' ');
            }
            boolean isCut = text.length() > 0 && Character.isLetterOrDigit(text.charAt(text.length() - 1))
                    && Character.isDigit(text.charAt(text.length() - 1)) == Character.isDigit(token.charAt(0));
            if (isCut && !chance(1)) {
                text.append(' ');
            }
            text.append(token);
        }

        private void number(int number) {
            token((chance(3) ? "000" : "") + Math.max(0, number));
        }

        private int near(int least, int greatest) {
            return chance(99) ? least + below(Math.max(1, greatest - least + 1)) : chance(50) ? greatest + 1 : least - 1;
        }

        private void semicolon() {
            if (!chance(1)) {
                token(";");
            }
        }

        private void statement(int kind) {
            String[] words = {"reach", "cloth", "wood", "colour", "mix", "spar", "pattern"};
            token(words[kind]);
            switch (kind) {
                case 0:
                    int rows = chance(98) ? height : height + 1 - below(3);
                    for (int y = 0; y < rows; y++) {
                        number(chance(99) ? below(width / 2 + 1) : width / 2 + 1);
                    }
                    break;
                case 1, 2:
                    number(near(0, 99));
                    break;
                case 3:
                    number(near(1, 6));
                    number(near(0, 99));
                    break;
                case 4:
                    number(near(1, 6));
                    number(near(1, 6));
                    number(near(1, 6));
                    break;
                case 5:
                    token(chance(50) ? "down" : "across");
                    number(near(0, width - 1));
                    number(near(0, height - 1));
                    number(near(1, chance(60) ? 3 : 15));
                    break;
                default:
                    pattern();
                    break;
            }
            semicolon();
        }

        private void pattern() {
            int digits = chance(98) ? 1 + below(7) : 8;
            int lines = chance(98) ? 1 + below(6) : 7;
            for (int line = 0; line < lines; line++) {
                StringBuilder told = new StringBuilder();
                for (int i = 0; i < digits; i++) {
                    told.append((char) ('0' + (chance(1) ? 7 + below(3) : below(7))));
                }
                if (chance(1)) {
                    told.append('1');
                }
                token(told.toString());
            }
        }

        private void spoil() {
            String signs = "09167;; akz{`/:@AZ\t\n\0\u00a0\u00b2\u00ff";
            int at = below(text.length());
            switch (below(4)) {
                case 0:
                    text.deleteCharAt(at);
                    break;
                case 1:
                    text.insert(at, signs.charAt(below(signs.length())));
                    break;
                case 2:
                    text.setCharAt(at, signs.charAt(below(signs.length())));
                    break;
                default:
                    text.setLength(at);
                    break;
            }
        }
    }
}
