/** Promises 5 to 17: the methods that tell something and change nothing. */
final class TellingTest {
    private static final int MIN = Integer.MIN_VALUE;
    private static final int MAX = Integer.MAX_VALUE;

    private TellingTest() {
    }

    public static void main(String[] args) {
        state();
        cell();
        cellOutside();
        mix();
        count();
        unlike();
        region();
        regions();
        bleeds();
        bleedsOfSeveral();
        driesIn();
        foretold();
        foretoldMixes();
        evens();
        evensEdges();
        pattern();
        covered();
        tellingChangesNothing();
        Check.end("TellingTest");
    }

    /** The sail: x 1 to 3 of row 0, 0 to 4 of row 1, 2 of row 2; spars on the middle column. */
    private static KitePainter nineCells() {
        return Check.kite("kite 5 3;reach 1 2 0;cloth 3;wood 7;colour 1 10;colour 2 4;mix 1 2 5;mix 6 3 1;"
                + "spar down 2 0 3;pattern 10 22;pattern 006;");
    }

    private static void state() {
        KitePainter kite = nineCells();
        kite.paint(1, 0, 1, 5, false);
        kite.paint(4, 1, 2, 1, false);
        kite.paint(2, 2, 6, 8, true);
        kite.pass(1);
        // (1, 0) bleeds into (1, 1): left are 13 + 13 + 3, right 3 + 3 + 7, in the middle 10 + 10 + 12.
        int[] state = {5, 3, 1, 9, 3, 5, 3, 29, 13, -16, 74, 2, 7};
        for (int what = 0; what < state.length; what++) {
            Check.due("5: state(" + what + ")", kite.state(what), state[what]);
        }
        kite.pass(20);
        Check.due("5: the time goes on on a dry sail", kite.state(2), 21);
        Check.due("5: wet cells of a dry sail", kite.state(6), 0);
        Check.due("5: the greatest wetness of it", kite.state(12), 0);
        Check.dueIllegal("5: state(-1)", () -> kite.state(-1));
        Check.dueIllegal("5: state(13)", () -> kite.state(13));
        Check.dueIllegal("5: state(MIN)", () -> kite.state(MIN));
        Check.dueIllegal("5: state(MAX)", () -> kite.state(MAX));
        KitePainter thin = Check.kite("kite 1 12;");
        thin.paint(0, 11, 3, 9, true);
        Check.due("5: a thin kite has no left half", thin.state(7), 0);
        Check.due("5: and no right one", thin.state(8), 0);
        Check.due("5: but a weight", thin.state(10), 14);
    }

    private static void cell() {
        KitePainter kite = nineCells();
        kite.paint(1, 0, 1, 5, false);
        kite.paint(2, 1, 4, 9, false);
        int[] painted = {1, 5, 0, 13, 3};
        int[] sparred = {4, 9, 1, 12, 7};
        int[] bare = {0, 0, 0, 3, 5};
        for (int what = 0; what < 5; what++) {
            Check.due("6: cell(1, 0, " + what + ")", kite.cell(1, 0, what), painted[what]);
            Check.due("6: cell(2, 1, " + what + ")", kite.cell(2, 1, what), sparred[what]);
            Check.due("6: cell(4, 1, " + what + ")", kite.cell(4, 1, what), bare[what]);
        }
        Check.due("6: mirror of the lowest cell", kite.cell(2, 2, 4), 12);
        Check.dueIllegal("6: what -1", () -> kite.cell(1, 0, -1));
        Check.dueIllegal("6: what 5", () -> kite.cell(1, 0, 5));
        Check.dueIllegal("6: what MAX", () -> kite.cell(1, 0, MAX));
        Check.dueOutside("6: no cell comes ahead of what", () -> kite.cell(0, 0, 5));
    }

    private static void cellOutside() {
        KitePainter kite = nineCells();
        int[] around = {-1, 0, 0, 0, 4, 0, 5, 0, -1, 1, 5, 1, 1, 2, 3, 2, 2, -1, 2, 3, MIN, 1, MAX, 1, MIN + 2, 1,
            2, MIN, 2, MAX, MIN, MIN, MAX, MAX, 7, 0, -3, 2};
        for (int i = 0; i < around.length; i += 2) {
            int x = around[i];
            int y = around[i + 1];
            String at = "(" + x + ", " + y + ")";
            Check.dueOutside("6: cell" + at, () -> kite.cell(x, y, 0));
            Check.dueOutside("10: region" + at, () -> kite.region(x, y));
            Check.dueOutside("12: bleeds" + at, () -> kite.bleeds(x, y));
        }
    }

    private static void mix() {
        KitePainter kite = nineCells();
        Check.due("7: told", kite.mix(1, 2), 5);
        Check.due("7: told, the other way round", kite.mix(2, 1), 5);
        Check.due("7: told with the greater one first", kite.mix(3, 6), 1);
        Check.due("7: and the other way round", kite.mix(6, 3), 1);
        Check.due("7: not told", kite.mix(1, 3), 3);
        Check.due("7: not told, the other way round", kite.mix(3, 1), 3);
        Check.due("7: alike", kite.mix(1, 1), 1);
        Check.due("7: alike", kite.mix(6, 6), 6);
        int[] wrong = {0, 7, -1, MIN, MAX};
        for (int colour : wrong) {
            Check.dueIllegal("7: mix(" + colour + ", 1)", () -> kite.mix(colour, 1));
            Check.dueIllegal("7: mix(1, " + colour + ")", () -> kite.mix(1, colour));
            Check.dueIllegal("7: mix of two that are wrong", () -> kite.mix(colour, colour));
        }
    }

    private static void count() {
        KitePainter kite = nineCells();
        kite.paint(1, 1, 6, 1, true);
        kite.paint(2, 0, 3, 1, false);
        int[] counts = {6, 0, 0, 1, 0, 0, 2};
        for (int colour = 0; colour <= 6; colour++) {
            Check.due("8: count(" + colour + ")", kite.count(colour), counts[colour]);
        }
        Check.dueIllegal("8: count(-1)", () -> kite.count(-1));
        Check.dueIllegal("8: count(7)", () -> kite.count(7));
        Check.dueIllegal("8: count(MIN)", () -> kite.count(MIN));
    }

    private static void unlike() {
        KitePainter kite = nineCells();
        Check.due("9: bare", kite.unlike(), 0);
        kite.paint(1, 0, 1, 1, true);
        Check.due("9: mirrored", kite.unlike(), 0);
        kite.paint(0, 1, 1, 1, false);
        Check.due("9: a pair", kite.unlike(), 1);
        kite.paint(3, 1, 1, 1, false);
        Check.due("9: two pairs", kite.unlike(), 2);
        kite.paint(2, 1, 1, 1, false);
        Check.due("9: the middle has no pair", kite.unlike(), 2);
        kite.paint(4, 1, 2, 1, false);
        Check.due("9: other colours", kite.unlike(), 2);
        kite.paint(4, 1, 1, 9, false);
        Check.due("9: wetness does not matter", kite.unlike(), 1);
        KitePainter great = Check.kite("kite 15 12;");
        great.stroke(3, 11, 3, 9, 1);
        great.paint(0, 11, 1, 1, false);
        great.paint(14, 10, 1, 1, false);
        Check.due("9: in the lowest row, too", great.unlike(), 2);
        Check.due("9: a thin kite", Check.kite("kite 1 3;").unlike(), 0);
    }

    private static void region() {
        KitePainter kite = nineCells();
        Check.due("10: bare, over the spars", kite.region(0, 1), 9);
        kite.paint(2, 1, 1, 1, false);
        Check.due("10: alone", kite.region(2, 1), 1);
        Check.due("10: around it on top", kite.region(0, 1), 7);
        Check.due("10: the lowest one", kite.region(2, 2), 1);
        kite.paint(2, 0, 2, 1, false);
        Check.due("10: the left ones", kite.region(1, 0), 3);
        Check.due("10: the right ones", kite.region(4, 1), 3);
        kite.paint(1, 0, 1, 1, false);
        Check.due("10: corners do not join", kite.region(1, 0), 1);
        KitePainter great = Check.kite("kite 15 12;");
        Check.due("10: all of the greatest kite", great.region(14, 11), 180);
        great.stroke(0, 5, 3, 15, 4);
        Check.due("10: parted", great.region(3, 0), 75);
        Check.due("10: the lower part", great.region(3, 11), 90);
        Check.due("10: the stroke", great.region(7, 5), 15);
    }

    private static void regions() {
        KitePainter kite = nineCells();
        Check.due("11: bare", kite.regions(0), 1);
        kite.paint(2, 1, 1, 1, false);
        Check.due("11: the lowest one is cut off", kite.regions(0), 2);
        kite.paint(2, 0, 2, 1, false);
        Check.due("11: three", kite.regions(0), 3);
        kite.paint(1, 0, 1, 1, true);
        Check.due("11: by corners", kite.regions(1), 3);
        kite.paint(1, 1, 1, 1, false);
        Check.due("11: joined", kite.regions(1), 2);
        Check.due("11: one cell", kite.regions(2), 1);
        Check.due("11: none", kite.regions(6), 0);
        Check.dueIllegal("11: regions(-1)", () -> kite.regions(-1));
        Check.dueIllegal("11: regions(7)", () -> kite.regions(7));
        Check.dueIllegal("11: regions(MAX)", () -> kite.regions(MAX));
        KitePainter board = Check.kite("kite 15 12;");
        for (int number = 0; number < 180; number += 2) {
            board.paint(number % 15, number / 15, 1, 1, false);
        }
        Check.due("11: a board of squares", board.regions(1), 90);
        Check.due("11: its bare ones", board.regions(0), 90);
    }

    private static void bleeds() {
        KitePainter kite = new KitePainter();
        Check.due("12: nothing is wet", kite.bleeds(1, 1), -1);
        kite.paint(1, 0, 1, 1, false);
        Check.due("12: 1 more is not enough", kite.bleeds(1, 1), -1);
        kite.paint(1, 0, 1, 2, false);
        Check.due("12: 2 more is", kite.bleeds(1, 1), 1);
        Check.due("12: not by corners", kite.bleeds(2, 1), -1);
        Check.due("12: into the neighbour on the right", kite.bleeds(2, 0), 1);
        Check.due("12: into the neighbour on the left", kite.bleeds(0, 0), 1);
        Check.due("12: not into itself", kite.bleeds(1, 0), -1);
        kite.paint(1, 1, 2, 1, false);
        Check.due("12: 2 and 1", kite.bleeds(1, 1), -1);
        kite.paint(1, 0, 1, 3, false);
        Check.due("12: 3 and 1", kite.bleeds(1, 1), 1);
        kite.spar(1, 1, true, 1);
        Check.due("12: into a spar", kite.bleeds(1, 1), -2);
        kite.strip(1, 1);
        kite.spar(1, 0, true, 1);
        Check.due("12: out of a spar", kite.bleeds(1, 1), -1);
        kite.strip(1, 0);
        kite.paint(1, 2, 4, 9, false);
        Check.due("12: the wettest one, from below", kite.bleeds(1, 1), 11);
        kite.paint(4, 4, 5, 1, false);
        kite.pass(1);
        Check.due("12: dry and not bare", kite.bleeds(4, 4), -3);
        kite.paint(3, 4, 5, 9, false);
        Check.due("12: nothing bleeds into it", kite.bleeds(4, 4), -3);
        Check.due("12: but into a bare one", kite.bleeds(3, 3), 23);
        kite.spar(4, 4, false, 1);
        Check.due("12: a spar that is dry and not bare", kite.bleeds(4, 4), -2);
        kite.paint(0, 4, 1, 9, false);
        Check.due("12: not over the edge of a row", kite.bleeds(4, 3), -1);
    }

    private static void bleedsOfSeveral() {
        KitePainter kite = Check.kite("kite 3 3;");
        kite.paint(1, 0, 1, 5, false);
        kite.paint(1, 2, 1, 5, false);
        kite.paint(0, 1, 1, 5, false);
        kite.paint(2, 1, 1, 5, false);
        Check.due("12: alike, the smallest number", kite.bleeds(1, 1), 1);
        kite.paint(2, 1, 2, 5, false);
        Check.due("12: the greatest colour", kite.bleeds(1, 1), 5);
        kite.paint(0, 1, 2, 5, false);
        Check.due("12: of two of them the smaller number", kite.bleeds(1, 1), 3);
        kite.paint(1, 2, 1, 6, false);
        Check.due("12: the wettest one ahead of the greatest colour", kite.bleeds(1, 1), 7);
        kite.spar(1, 2, true, 1);
        Check.due("12: without those with a spar", kite.bleeds(1, 1), 3);
        KitePainter corner = Check.kite("kite 3 2;");
        corner.paint(0, 0, 3, 7, false);
        corner.paint(2, 0, 4, 6, false);
        corner.paint(1, 1, 5, 7, false);
        Check.due("12: the greatest colour, not the number 0", corner.bleeds(1, 0), 4);
        corner.paint(1, 1, 2, 7, false);
        Check.due("12: the number 0, and no less wet one of a greater colour", corner.bleeds(1, 0), 0);
    }

    private static void driesIn() {
        KitePainter kite = new KitePainter();
        Check.due("13: dry", kite.driesIn(), 0);
        kite.paint(0, 0, 1, 3, false);
        Check.due("13: 3", kite.driesIn(), 3);
        kite.paint(4, 4, 1, 9, false);
        kite.spar(4, 4, true, 1);
        Check.due("13: also on a spar", kite.driesIn(), 9);
        for (int left = 8; left >= 0; left--) {
            kite.pass(1);
            Check.due("13: after a tick", kite.driesIn(), left);
            Check.due("13: whether one is wet", kite.state(6) > 0 ? 1 : 0, left > 0 ? 1 : 0);
        }
    }

    private static void foretold() {
        KitePainter kite = new KitePainter();
        kite.paint(0, 0, 1, 5, false);
        // In the ticks 1 to 3 the corner bleeds into (1, 0) and (0, 1); they are dry after the 4th one.
        int[] balance = {-6, -6, -6, -6, -6};
        int[] bare = {22, 22, 22, 22, 22};
        int[] unlike = {3, 3, 3, 3, 3};
        int[] wet = {3, 3, 3, 1, 0};
        int[] bled = {2, 4, 6, 6, 6};
        long before = kite.checksum();
        for (int ticks = 1; ticks <= 5; ticks++) {
            Check.due("14: foretold(" + ticks + ", 0)", kite.foretold(ticks, 0), balance[ticks - 1]);
            Check.due("14: foretold(" + ticks + ", 1)", kite.foretold(ticks, 1), bare[ticks - 1]);
            Check.due("14: foretold(" + ticks + ", 2)", kite.foretold(ticks, 2), unlike[ticks - 1]);
            Check.due("14: foretold(" + ticks + ", 3)", kite.foretold(ticks, 3), wet[ticks - 1]);
            Check.due("14: foretold(" + ticks + ", 4)", kite.foretold(ticks, 4), bled[ticks - 1]);
        }
        Check.due("14: foretold(40, 4)", kite.foretold(40, 4), 6);
        Check.due("14: foretold(40, 3)", kite.foretold(40, 3), 0);
        Check.due("14: nothing passes", kite.checksum(), before);
        Check.due("14: nor is it a change", kite.undo(), 0);
        int[] wrong = {0, -1, 41, MIN, MAX};
        for (int ticks : wrong) {
            Check.dueIllegal("14: foretold(" + ticks + ", 0)", () -> kite.foretold(ticks, 0));
        }
        int[] wrongWhat = {-1, 5, MIN, MAX};
        for (int what : wrongWhat) {
            Check.dueIllegal("14: foretold(1, " + what + ")", () -> kite.foretold(1, what));
        }
    }

    private static void foretoldMixes() {
        KitePainter kite = Check.kite("kite 5 1;colour 1 10;colour 2 20;colour 3 40;mix 1 2 3;");
        kite.paint(0, 0, 1, 9, false);
        kite.paint(1, 0, 2, 3, false);
        Check.due("14: now", kite.state(9), -30);
        Check.due("14: the mix weighs more, and 2 bleeds into the middle", kite.foretold(1, 0), -50);
        Check.due("14: two bled", kite.foretold(1, 4), 2);
        // (1, 0) is 3 with (9 + 3) / 2 - 1 = 5, the middle 2 with 3 / 2 - 1 = 0 and dry: nothing goes on to the right.
        Check.due("14: the right half stays bare", kite.foretold(40, 1), 2);
        Check.due("14: unlike pairs", kite.foretold(40, 2), 2);
        // Then (8 + 5) / 2 - 1 = 5, (7 + 5) / 2 - 1 = 5, 6 and 5 are too near.
        Check.due("14: how often", kite.foretold(40, 4), 4);
    }

    private static void evens() {
        KitePainter kite = Check.kite("kite 5 2;colour 1 1;colour 2 2;colour 3 3;colour 4 4;colour 5 5;colour 6 6;");
        for (int colour = 0; colour <= 6; colour++) {
            Check.due("15: even already, " + colour, kite.evens(colour), -1);
        }
        kite.paint(0, 1, 4, 1, false);
        Check.due("15: the other half, the smallest number", kite.evens(4), 3);
        Check.due("15: the colour there gets lighter", kite.evens(0), 5);
        Check.due("15: too light is better than nothing", kite.evens(3), 3);
        Check.due("15: too heavy, but less", kite.evens(6), 3);
        Check.due("15: lighter paint there leaves less than as much on the other side", kite.evens(1), 5);
        kite.paint(0, 1, 2, 1, false);
        Check.due("15: as uneven as it is", kite.evens(4), -1);
        Check.due("15: worse than it is", kite.evens(5), -1);
        kite.paint(3, 0, 1, 1, false);
        Check.due("15: at a cell that is painted", kite.evens(2), 3);
        Check.due("15: at a bare cell", kite.evens(1), 4);
        kite.spar(4, 0, true, 2);
        // Now the right half is heavier by 9.
        Check.due("15: the heavier right half", kite.state(9), 9);
        Check.due("15: paint on the left", kite.evens(6), 0);
        Check.due("15: or taken from the right", kite.evens(0), 3);
    }

    private static void evensEdges() {
        KitePainter kite = Check.kite("kite 5 2;reach 1 2;colour 1 9;spar across 0 1 2;spar across 4 1 1;wood 10;");
        Check.due("15: balance", kite.state(9), -10);
        Check.due("15: a cell of the sail", kite.evens(1), 3);
        kite.spar(3, 0, true, 1);
        Check.due("15: even", kite.evens(1), -1);
        kite.paint(3, 0, 1, 1, false);
        Check.due("15: at a cell with a spar", kite.evens(0), 3);
        Check.due("15: on the left", kite.evens(1), 1);
        int[] wrong = {-1, 7, MIN, MAX};
        for (int colour : wrong) {
            Check.dueIllegal("15: evens(" + colour + ")", () -> kite.evens(colour));
        }
        KitePainter great = Check.kite("kite 15 12;");
        great.paint(14, 11, 1, 1, false);
        great.spar(13, 11, true, 1);
        Check.due("15: at the last cell", great.evens(0), 179);
        KitePainter middle = Check.kite("kite 1 3;");
        middle.paint(0, 1, 1, 1, false);
        Check.due("15: the middle does not matter", middle.evens(0), -1);
    }

    private static void pattern() {
        KitePainter kite = Check.kite("kite 5 3;pattern 10 22;pattern 0060000;pattern 1 0 3 0 5 6;");
        int[][] patterns = {{2, 2, 3}, {7, 1, 1}, {1, 6, 4}};
        for (int index = 0; index < 3; index++) {
            for (int what = 0; what < 3; what++) {
                Check.due("16: pattern(" + index + ", " + what + ")", kite.pattern(index, what), patterns[index][what]);
            }
        }
        Check.dueOutside("16: pattern(3, 0)", () -> kite.pattern(3, 0));
        Check.dueOutside("16: pattern(-1, 0)", () -> kite.pattern(-1, 0));
        Check.dueOutside("16: pattern(MIN, 0)", () -> kite.pattern(MIN, 0));
        Check.dueOutside("16: pattern(MAX, 0)", () -> kite.pattern(MAX, 0));
        Check.dueIllegal("16: pattern(0, 3)", () -> kite.pattern(0, 3));
        Check.dueIllegal("16: pattern(0, -1)", () -> kite.pattern(0, -1));
        Check.dueOutside("16: no pattern comes ahead of what", () -> kite.pattern(3, 3));
        KitePainter full = Check.kite("kite 5 3;pattern 1111111 1111111 1111111 1111111 1111111 1111111;"
                + "pattern 2222222 2222222 2222222 2222222 2222222 2222222;"
                + "pattern 3333333 3333333 3333333 3333333 3333333 3333330;");
        Check.due("16: all digits", full.pattern(0, 2), 42);
        Check.due("16: all digits", full.pattern(1, 2), 42);
        Check.due("16: all digits but one", full.pattern(2, 2), 41);
        KitePainter two = nineCells();
        Check.dueOutside("16: two patterns", () -> two.pattern(2, 0));
        Check.due("16: the second one", two.pattern(1, 2), 1);
    }

    private static void covered() {
        KitePainter kite = nineCells();
        Check.dueFloat("17: bare", kite.covered(), 0f);
        kite.paint(2, 2, 1, 1, false);
        Check.dueFloat("17: a ninth", kite.covered(), 1f / 9f);
        kite.paint(0, 1, 1, 1, true);
        Check.dueFloat("17: a third", kite.covered(), 3f / 9f);
        kite.pass(20);
        Check.dueFloat("17: dry cells count", kite.covered(), 3f / 9f);
        KitePainter one = Check.kite("kite 1 1;");
        one.paint(0, 0, 6, 9, true);
        Check.dueFloat("17: all", one.covered(), 1f);
    }

    private static void tellingChangesNothing() {
        KitePainter kite = nineCells();
        kite.paint(0, 1, 2, 9, true);
        kite.stamp(0, 2, 0, true);
        long before = kite.checksum();
        kite.region(1, 1);
        kite.regions(0);
        kite.bleeds(1, 1);
        kite.driesIn();
        kite.foretold(3, 0);
        kite.evens(1);
        kite.covered();
        kite.unlike();
        Check.due("5 to 17: the checksum", kite.checksum(), before);
        Check.due("5 to 17: no changes", kite.undo(), 2);
    }
}
