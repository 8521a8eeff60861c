import java.math.BigInteger;
import java.util.ArrayList;
import java.util.List;

/** The sentences of "Changes" and of the promises 25 and 26 that name a boundary case: a test for each. */
final class ChangeSentencesTest {
    private static final int MIN = Integer.MIN_VALUE;
    private static final int MAX = Integer.MAX_VALUE;

    private ChangeSentencesTest() {
    }

    public static void main(String[] args) {
        changingMethods();
        changeThatLeavesAll();
        latest8Changes();
        finalChanges();
        beforeTheFirstLoad();
        outsideOfTheSail();
        exceptionListedFirst();
        exceptionChangesNothing();
        undoAnswers();
        undoNothing();
        undoLeavesTheBuffer();
        checksumNumbers();
        checksumWraps();
        Check.end("ChangeSentencesTest");
    }

    private static void changingMethods() {
        Check.sentence("3, 18 to 25", "The changing methods are load (when it succeeds), pass, paint, stroke, stamp, spar,"
                + " strip and wash");
        Traces.dueChange("pass", 7, kite -> kite.pass(1));
        Traces.dueChange("paint", -11, kite -> kite.paint(3, 3, 6, 9, true));
        Traces.dueChange("stroke", 2, kite -> kite.stroke(0, 0, 3, 9, 6));
        Traces.dueChange("stamp", 5, kite -> kite.stamp(0, 4, 1, true));
        Traces.dueChange("spar", 3, kite -> kite.spar(4, 2, false, 15));
        Traces.dueChange("strip", -4, kite -> kite.strip(2, 1));
        Traces.dueChange("wash", 4, kite -> kite.wash(3, 2));
        KitePainter loaded = Traces.busyKite();
        Check.due("load", loaded.load(20), 6);
        Check.due("undo() of load", loaded.undo(), 3);
        KitePainter failed = Traces.busyKite();
        Check.due("load with an error", failed.load(5), KitePainter.SYNTAX_ERROR);
        failed.append(0, 0, 0, 0, 0);
        Check.due("undo() of no change by it", failed.undo(), 2);
    }

    private static void changeThatLeavesAll() {
        Check.sentence("3, 19 to 22 and 25", "each such call that does not throw an exception is a change, also if all data"
                + " stay as they were.");
        String text = "kite 5 3;pattern 0;pattern 1;spar down 2 0 2;";
        List<Traces.Call> calls = List.of(kite -> kite.paint(0, 0, 1, 4, false), kite -> kite.stroke(2, 0, 1, 3, 2),
                kite -> kite.stamp(0, 2, 2, true), kite -> kite.stamp(1, 0, 0, false), kite -> kite.spar(2, 0, true, 2),
                kite -> kite.stroke(4, 2, 1, 15, 3));
        for (Traces.Call call : calls) {
            KitePainter kite = Check.kite(text);
            kite.paint(0, 0, 1, 4, false);
            kite.paint(4, 2, 3, 6, true);
            long before = kite.checksum();
            call.on(kite);
            Check.due("all data", kite.checksum(), before);
            Check.due("undo() of the change", kite.undo(), 3);
            Check.due("all data", kite.checksum(), before);
            Check.due("undo() of the one ahead of it", kite.undo(), 2);
        }
        KitePainter kite = Check.kite(text);
        Check.load(kite, text);
        Check.due("undo() of the same load", kite.undo(), 1);
        Check.due("undo() of the one ahead of it", kite.undo(), 0);
    }

    private static void latest8Changes() {
        Check.sentence("25", "The latest 8 changes can be undone, the latest one first");
        for (int changes = 0; changes <= 20; changes++) {
            KitePainter kite = new KitePainter();
            for (int change = 1; change <= changes; change++) {
                kite.pass(change);
            }
            int time = changes * (changes + 1) / 2;
            for (int change = changes; change > Math.max(0, changes - 8); change--) {
                time -= change;
                Check.due("undo() of change " + change, kite.undo(), Math.min(8, changes) - 1 - (changes - change));
                Check.due("the time ahead of it", kite.state(2), time);
            }
            Check.due("undo() of none of " + changes, kite.undo(), -1);
            Check.due("the time", kite.state(2), time);
        }
    }

    private static void finalChanges() {
        Check.sentence("25", "a change is final as soon as 8 later ones, none of them undone, have been made.");
        for (int undone = 0; undone <= 8; undone++) {
            for (int later = 0; later <= 9; later++) {
                KitePainter kite = new KitePainter();
                List<Integer> past = new ArrayList<>();
                makeChanges(kite, past, 11);
                for (int i = 0; i < undone; i++) {
                    takeBack(kite, past);
                }
                makeChanges(kite, past, later);
                while (!past.isEmpty()) {
                    takeBack(kite, past);
                }
                Check.due("undo() of a final change", kite.undo(), -1);
            }
        }
    }

    /** Makes changes, and keeps the times ahead of those that are not final. */
    private static void makeChanges(KitePainter kite, List<Integer> past, int changes) {
        for (int change = 1; change <= changes; change++) {
            past.add(kite.state(2));
            if (past.size() > 8) {
                past.remove(0);
            }
            kite.pass(change);
        }
    }

    private static void takeBack(KitePainter kite, List<Integer> past) {
        int time = past.remove(past.size() - 1);
        Check.due("undo()", kite.undo(), past.size());
        Check.due("the time", kite.state(2), time);
    }

    private static void beforeTheFirstLoad() {
        Check.sentence("1 and 3", "Before the first successful load the kite has the width 5 and the height 5, and all is as"
                + " without statements.");
        KitePainter kite = new KitePainter();
        Check.dueSame("a new object", Traces.now(kite), Traces.now(Check.kite("kite 5 5;")));
        Check.load(kite, "kite 9 9;cloth 50;wood 50;colour 1 50;mix 1 2 3;pattern 1;spar down 0 0 9;reach");
        Check.due("the offset of an error", kite.errorOffset(), 74);
        kite.load(0);
        KitePainter other = new KitePainter();
        other.load(0);
        Check.dueSame("a failing load", Traces.now(kite), Traces.now(other));
        kite.paint(0, 0, 1, 1, false);
        kite.spar(0, 0, true, 1);
        Check.due("the weights of cloth, colour and wood", kite.cell(0, 0, 3), 1 + 2 + 5);
        Check.dueOutside("no pattern", () -> kite.stamp(0, 2, 2, true));
    }

    private static void outsideOfTheSail() {
        Check.sentence("6, 10, 12, 16 and 19 to 24", "In the methods, IndexOutOfBoundsException is thrown if x and y are not"
                + " those of a cell of the sail, or pattern is not the index of a pattern.");
        for (int[] place : Traces.OUTSIDE) {
            int x = place[0];
            int y = place[1];
            String at = "(" + x + ", " + y + ")";
            Traces.dueOutside("cell" + at, kite -> kite.cell(x, y, 0));
            Traces.dueOutside("paint" + at, kite -> kite.paint(x, y, 1, 1, true));
            Traces.dueOutside("stroke" + at, kite -> kite.stroke(x, y, 3, 15, 1));
            Traces.dueOutside("stamp" + at, kite -> kite.stamp(0, x, y, true));
            Traces.dueOutside("spar" + at, kite -> kite.spar(x, y, false, 15));
            Traces.dueOutside("strip" + at, kite -> kite.strip(x, y));
            Traces.dueOutside("wash" + at, kite -> kite.wash(x, y));
        }
        for (int[] place : Traces.BARE_EDGES) {
            int x = place[0];
            int y = place[1];
            Traces.dueChange("stroke", 1, kite -> kite.stroke(x, y, 1, 1, 1));
            Traces.dueChange("stamp", 1, kite -> kite.stamp(1, x, y, false));
            Traces.dueChange("spar", 1, kite -> kite.spar(x, y, true, 1));
        }
        int[] wrong = {-1, 2, MIN, MAX};
        for (int pattern : wrong) {
            Traces.dueOutside("pattern(" + pattern + ", 0)", kite -> kite.pattern(pattern, 0));
            Traces.dueOutside("stamp(" + pattern + ", ..)", kite -> kite.stamp(pattern, 3, 3, true));
        }
    }

    private static void exceptionListedFirst() {
        Check.sentence("6, 16, 19, 20 and 22 to 24", "If several exceptions apply to a call, the one that is listed first with"
                + " the method is thrown.");
        Traces.dueOutside("cell(0, 1, 5)", kite -> kite.cell(0, 1, 5));
        Traces.dueOutside("pattern(2, 3)", kite -> kite.pattern(2, 3));
        Traces.dueOutside("paint(0, 1, 0, 1, true)", kite -> kite.paint(0, 1, 0, 1, true));
        Traces.dueOutside("paint(0, 1, 1, 10, true)", kite -> kite.paint(0, 1, 1, 10, true));
        Traces.dueOutside("stroke(0, 1, 4, 1, 1)", kite -> kite.stroke(0, 1, 4, 1, 1));
        Traces.dueOutside("stroke(0, 1, 0, 16, 1)", kite -> kite.stroke(0, 1, 0, 16, 1));
        Traces.dueOutside("stroke(0, 1, 0, 1, 7)", kite -> kite.stroke(0, 1, 0, 1, 7));
        Traces.dueOutside("stamp(2, 0, 1, true)", kite -> kite.stamp(2, 0, 1, true));
        Traces.dueOutside("spar(0, 1, true, 0)", kite -> kite.spar(0, 1, true, 0));
        Traces.dueOutside("strip(0, 1)", kite -> kite.strip(0, 1));
        Traces.dueOutside("wash(0, 1)", kite -> kite.wash(0, 1));
    }

    private static void exceptionChangesNothing() {
        Check.sentence("3 and 18 to 24", "A method that throws an exception changes nothing.");
        List<Traces.Call> refused = List.of(kite -> kite.load(1), kite -> kite.pass(21), kite -> kite.paint(2, 2, 7, 1, true),
                kite -> kite.paint(5, 5, 1, 1, true), kite -> kite.stroke(2, 2, 0, 0, 1), kite -> kite.stroke(-1, 2, 3, 9, 1),
                kite -> kite.stamp(0, 2, 2, true), kite -> kite.spar(2, 2, true, 16), kite -> kite.spar(2, -1, true, 9),
                kite -> kite.strip(2, 2), kite -> kite.wash(2, 2), kite -> kite.foretold(41, 0), kite -> kite.state(13));
        for (Traces.Call call : refused) {
            KitePainter kite = new KitePainter();
            makeChanges(kite, new ArrayList<>(), 9);
            long before = kite.checksum();
            Check.due("a call that throws", isRefused(call, kite) ? 1 : 0, 1);
            Check.due("all data", kite.checksum(), before);
            for (int left = 7; left >= 0; left--) {
                Check.due("undo() of the 8 changes ahead of it", kite.undo(), left);
            }
        }
    }

    private static boolean isRefused(Traces.Call call, KitePainter kite) {
        try {
            call.on(kite);
            return false;
        } catch (IndexOutOfBoundsException | IllegalArgumentException | IllegalStateException e) {
            return true;
        }
    }

    private static void undoAnswers() {
        Check.sentence("25", "Undoes the latest change that is not final and has not been undone.");
        KitePainter kite = Check.kite("kite 7 4;reach 3 2 3 1;mix 1 2 5;spar down 2 0 3;pattern 102 220;");
        List<Traces.Call> changes = List.of(busy -> busy.paint(3, 1, 1, 9, true), busy -> busy.pass(2),
                busy -> busy.stroke(0, 2, 3, 2, 4), busy -> busy.stamp(0, 4, 1, true), busy -> busy.spar(4, 0, true, 15),
                busy -> busy.strip(2, 1), busy -> busy.wash(3, 1), busy -> Check.load(busy, "kite 3 1;cloth 9;mix 1 2 4;"));
        List<String> traces = new ArrayList<>();
        for (Traces.Call change : changes) {
            traces.add(Traces.now(kite));
            change.on(kite);
        }
        for (int change = changes.size() - 1; change >= 0; change--) {
            Check.due("undo() of change " + change, kite.undo(), change);
            Check.dueSame("what was ahead of change " + change, Traces.now(kite), traces.get(change));
        }
        Check.due("undo() of a final change", kite.undo(), -1);
    }

    private static void undoNothing() {
        Check.sentence("25", "Returns the number of changes that can still be undone; -1 if there was none to undo, and nothing"
                + " changes then.");
        KitePainter fresh = new KitePainter();
        Check.due("undo() of a new object", fresh.undo(), -1);
        Check.dueSame("nothing changes", Traces.all(fresh), Traces.all(new KitePainter()));
        KitePainter one = new KitePainter();
        one.pass(1);
        Check.due("undo() of one change", one.undo(), 0);
        Check.due("undo() of none", one.undo(), -1);
        Check.due("the time", one.state(2), 0);
        KitePainter nine = new KitePainter();
        makeChanges(nine, new ArrayList<>(), 9);
        for (int left = 7; left >= -1; left--) {
            Check.due("undo()", nine.undo(), left);
        }
        Check.due("undo() again", nine.undo(), -1);
        Check.due("the time behind the final change", nine.state(2), 1);
        nine.pass(3);
        Check.due("undo() of a change behind that", nine.undo(), 0);
        Check.due("the time", nine.state(2), 1);
    }

    private static void undoLeavesTheBuffer() {
        Check.sentence("25", "The input buffer and the error offset are not affected.");
        KitePainter kite = Traces.busyKite();
        Check.due("undo()", kite.undo(), 2);
        Check.due("the error offset", kite.errorOffset(), 7);
        kite.append(0, 0, 0, 0, 0);
        Check.due("undo()", kite.undo(), 1);
        Check.dueIllegal("41 bytes", () -> kite.load(41));
        Check.due("the text in the buffer", kite.load(20), 6);
        Check.due("the error offset", kite.errorOffset(), -1);
        Check.due("undo() of that load", kite.undo(), 1);
        Check.due("the error offset", kite.errorOffset(), -1);
        Check.dueIllegal("the buffer stays empty", () -> kite.load(1));
        Check.due("undo() of the first load", kite.undo(), 0);
        Check.due("the width", kite.state(0), 5);
        kite.load(0);
        Check.due("undo() of none", kite.undo(), -1);
        Check.due("the error offset", kite.errorOffset(), 0);
    }

    private static BigInteger sumOf(KitePainter kite) {
        BigInteger sum = BigInteger.ZERO;
        for (int what = 0; what <= 12; what++) {
            sum = sum.multiply(BigInteger.valueOf(31)).add(BigInteger.valueOf(kite.state(what)));
        }
        for (int y = 0; y < kite.state(1); y++) {
            for (int x = 0; x < kite.state(0); x++) {
                int told = isOfTheSail(kite, x, y) ? 4 : 0;
                for (int what = 0; what < told; what++) {
                    sum = sum.multiply(BigInteger.valueOf(31)).add(BigInteger.valueOf(kite.cell(x, y, what)));
                }
            }
        }
        return sum;
    }

    private static boolean isOfTheSail(KitePainter kite, int x, int y) {
        try {
            return kite.cell(x, y, 4) >= 0;
        } catch (IndexOutOfBoundsException e) {
            return false;
        }
    }

    private static void checksumNumbers() {
        Check.sentence("26", "state(0) to state(12); for each cell of the sail, by rising numbers, what cell(int, int, int)"
                + " tells of it for 0 to 3.");
        String[] texts = {"kite 1 1;cloth 0;", "kite 5 5;", "kite 5 3;reach 0 2 1;pattern 12;", "kite 3 4;reach 0 1 0 1;wood 9;"};
        for (String text : texts) {
            KitePainter kite = Check.kite(text);
            Check.due("a bare kite", kite.checksum(), sumOf(kite).longValue());
            int middle = kite.state(0) / 2;
            kite.paint(middle, 0, 3, 9, false);
            kite.spar(middle, kite.state(1) - 1, true, 1);
            kite.pass(2);
            Check.due("a painted one", kite.checksum(), sumOf(kite).longValue());
        }
        Traces.dueTold("checksum()", sumOf(Traces.busyKite()).longValue(), KitePainter::checksum);
    }

    private static void checksumWraps() {
        Check.sentence("26", "It starts at 0; each number n in the following order replaces it by 31 * checksum + n, wrapping"
                + " around on overflow of a long");
        KitePainter kite = Check.kite("kite 5 8;reach 0 1 2 2 2 2 1 0;cloth 99;wood 99;colour 6 99;colour 5 98;");
        for (int y = 0; y < 8; y++) {
            kite.stroke(2, y, 2, 9, y % 2 + 5);
            kite.spar(2, y, y % 2 == 0, 15);
        }
        BigInteger whole = sumOf(kite);
        Check.due("it is too great for a long", whole.bitLength() > 64 ? 1 : 0, 1);
        Check.due("it wraps around", kite.checksum(), whole.longValue());
        KitePainter other = Check.kite("kite 5 8;cloth 99;");
        Check.due("that of another kite", other.checksum() == kite.checksum() ? 1 : 0, 0);
        Check.due("a sum below 0", negativeSum() < 0 ? 1 : 0, 1);
    }

    /** The sum of some kite whose sum is less than 0. */
    private static long negativeSum() {
        long sum = 0;
        for (int ticks = 1; ticks <= 20 && sum >= 0; ticks++) {
            KitePainter kite = new KitePainter();
            kite.pass(ticks);
            sum = kite.checksum();
            Check.due("the sum after " + ticks + " ticks", sum, sumOf(kite).longValue());
        }
        return sum;
    }
}
