/** Promises 18 to 26: the methods that change something, undo and checksum. */
final class ChangingTest {
    private static final int MIN = Integer.MIN_VALUE;
    private static final int MAX = Integer.MAX_VALUE;

    private ChangingTest() {
    }

    public static void main(String[] args) {
        pass();
        passBySpars();
        passIntoDryAndByMixes();
        passToTheEdges();
        passAtOnce();
        passLimits();
        paint();
        paintWrong();
        stroke();
        strokeBySpars();
        strokeWrong();
        stamp();
        stampFull();
        stampOrder();
        stampWrong();
        spar();
        sparWrong();
        strip();
        wash();
        undoEachChange();
        undoLimits();
        undoAfterUndo();
        undoLoad();
        exceptionsChangeNothing();
        checksum();
        Check.end("ChangingTest");
    }

    private static void pass() {
        KitePainter kite = new KitePainter();
        Check.due("18: nothing is wet", kite.pass(1), 0);
        Check.due("18: the time", kite.state(2), 1);
        kite.paint(1, 1, 3, 9, false);
        Check.due("18: into four neighbours", kite.pass(1), 4);
        Check.dueCell("18: the neighbour keeps its own, but for drying", kite, 1, 1, 380);
        Check.dueCell("18: (0 + 9) / 2 - 1", kite, 1, 0, 330);
        Check.dueCell("18: the same", kite, 0, 1, 330);
        Check.dueCell("18: the same", kite, 2, 1, 330);
        Check.dueCell("18: the same", kite, 1, 2, 330);
        Check.dueCell("18: not by corners", kite, 0, 0, 0);
        // Now (3 + 8) / 2 - 1 = 4 in these four, and 3 / 2 - 1 = 0 in their six bare neighbours.
        Check.due("18: 4 and 6", kite.pass(1), 4 + 6);
        Check.dueCell("18: wet into less wet", kite, 2, 1, 340);
        Check.dueCell("18: dry at once, but not bare", kite, 3, 1, 300);
        Check.dueCell("18: dry at once, but not bare", kite, 0, 0, 300);
        Check.dueCell("18: still bare", kite, 3, 0, 0);
        Check.due("18: the time", kite.state(2), 3);
        // 7 and 4, then 6 and 4: twice into four; then 5 and 4 are too near.
        Check.due("18: 20 ticks", kite.pass(20), 8);
        Check.due("18: the time", kite.state(2), 23);
        Check.due("18: all is dry", kite.state(6), 0);
        Check.dueCell("18: colours stay", kite, 1, 1, 300);
    }

    private static void passBySpars() {
        KitePainter kite = Check.kite("kite 5 1;spar down 1 0 1;");
        kite.paint(0, 0, 1, 9, false);
        kite.paint(1, 0, 2, 5, false);
        Check.due("18: neither into a spar nor out of it", kite.pass(3), 0);
        Check.dueCell("18: it dries all the same", kite, 1, 0, 221);
        Check.dueCell("18: and so does the other one", kite, 0, 0, 160);
        Check.dueCell("18: bare", kite, 2, 0, 0);
        kite.strip(1, 0);
        Check.due("18: without it", kite.pass(1), 2);
        Check.dueCell("18: (2 + 6) / 2 - 1, mixed", kite, 1, 0, 230);
        Check.dueCell("18: by what was there when the tick began", kite, 2, 0, 200);
    }

    private static void passIntoDryAndByMixes() {
        KitePainter kite = Check.kite("kite 5 1;mix 1 2 5;mix 5 1 4;");
        kite.paint(0, 0, 1, 9, false);
        kite.paint(1, 0, 2, 1, false);
        kite.paint(2, 0, 3, 1, false);
        kite.pass(1);
        Check.dueCell("18: the told mix", kite, 1, 0, 540);
        Check.dueCell("18: dry", kite, 2, 0, 300);
        kite.pass(1);
        Check.dueCell("18: mixed again", kite, 1, 0, 450);
        Check.dueCell("18: nothing bleeds into a cell that is dry and not bare", kite, 2, 0, 300);
        KitePainter several = Check.kite("kite 3 3;mix 2 6 1;");
        several.paint(1, 1, 6, 2, false);
        several.paint(1, 0, 1, 8, false);
        several.paint(2, 1, 2, 8, false);
        several.paint(1, 2, 5, 7, false);
        several.pass(1);
        Check.dueCell("18: the wettest one of the greatest colour", several, 1, 1, 140);
    }

    /** Paint bleeds into the first and the last column and row, too. */
    private static void passToTheEdges() {
        KitePainter kite = Check.kite("kite 3 12;");
        kite.paint(1, 0, 1, 9, false);
        kite.paint(1, 11, 2, 9, false);
        Check.due("18: three of each", kite.pass(1), 6);
        Check.dueCell("18: the first column", kite, 0, 0, 130);
        Check.dueCell("18: the last column", kite, 2, 0, 130);
        Check.dueCell("18: the lowest row", kite, 0, 11, 230);
        Check.dueCell("18: its last column", kite, 2, 11, 230);
    }

    /** Many ticks at once are the same as one by one, and as what is foretold. */
    private static void passAtOnce() {
        for (int ticks = 1; ticks <= 20; ticks++) {
            KitePainter atOnce = wetKite();
            KitePainter oneByOne = wetKite();
            int foretold = atOnce.foretold(ticks, 4);
            int bled = 0;
            for (int i = 0; i < ticks; i++) {
                bled += oneByOne.pass(1);
            }
            Check.due("18: one by one", bled, foretold);
            Check.due("18: at once", atOnce.pass(ticks), foretold);
            Check.due("18: the same kite", atOnce.checksum(), oneByOne.checksum());
        }
    }

    private static KitePainter wetKite() {
        KitePainter kite = Check.kite("kite 9 6;reach 1 2 4 4 3 0;mix 1 2 3;mix 3 4 1;mix 5 6 2;spar down 4 0 3;spar across 2 4 3;");
        kite.stroke(0, 2, 3, 3, 1);
        kite.paint(2, 2, 4, 9, true);
        kite.paint(3, 3, 5, 8, false);
        kite.paint(5, 3, 6, 8, false);
        kite.paint(4, 5, 2, 7, false);
        kite.paint(4, 0, 3, 9, false);
        kite.paint(3, 0, 2, 3, true);
        return kite;
    }

    private static void passLimits() {
        KitePainter kite = new KitePainter();
        int[] wrong = {0, -1, 21, MIN, MAX};
        for (int ticks : wrong) {
            Check.dueIllegal("18: pass(" + ticks + ")", () -> kite.pass(ticks));
        }
        Check.due("18: no time has passed", kite.state(2), 0);
        Check.due("18: pass(20)", kite.pass(20), 0);
        Check.due("18: the time", kite.state(2), 20);
    }

    private static void paint() {
        KitePainter kite = Check.kite("kite 5 3;colour 1 10;colour 2 4;colour 6 7;spar down 3 0 1;");
        Check.due("19: the balance", kite.paint(0, 0, 1, 9, false), 5 - 10);
        Check.dueCell("19: painted", kite, 0, 0, 190);
        Check.dueCell("19: the mirror is not", kite, 4, 0, 0);
        Check.due("19: with its mirror", kite.paint(1, 0, 6, 1, true), -5);
        Check.dueCell("19: painted", kite, 1, 0, 610);
        Check.dueCell("19: the mirror, with a spar", kite, 3, 0, 611);
        Check.due("19: painted over", kite.paint(4, 0, 2, 3, true), 5);
        Check.dueCell("19: whatever was there", kite, 0, 0, 230);
        Check.due("19: the middle", kite.paint(2, 1, 1, 2, true), 5);
        Check.dueCell("19: the middle is its own mirror", kite, 2, 1, 120);
        kite.pass(20);
        kite.paint(2, 1, 2, 4, false);
        Check.dueCell("19: what was dry is wet", kite, 2, 1, 240);
    }

    private static void paintWrong() {
        KitePainter kite = Check.kite("kite 5 3;reach 1 2 2;");
        int[] wrong = {0, -1, 10, MIN, MAX};
        for (int number : wrong) {
            Check.dueIllegal("19: colour " + number, () -> kite.paint(2, 0, number, 1, true));
            Check.dueIllegal("19: wetness " + number, () -> kite.paint(2, 0, 1, number, true));
            Check.dueOutside("19: no cell ahead of colour and wetness", () -> kite.paint(0, 0, number, number, true));
        }
        Check.dueIllegal("19: colour 7", () -> kite.paint(2, 0, 7, 1, true));
        Check.dueOutside("19: (0, 0)", () -> kite.paint(0, 0, 1, 1, true));
        Check.dueOutside("19: (4, 0)", () -> kite.paint(4, 0, 1, 1, false));
        Check.dueOutside("19: (0, 3)", () -> kite.paint(0, 3, 1, 1, false));
        Check.dueOutside("19: (MIN, 1)", () -> kite.paint(MIN, 1, 1, 1, false));
        Check.due("19: colour 6 and wetness 9", kite.paint(4, 1, 6, 9, false), 2);
        Check.due("19: one change", kite.undo(), 1);
    }

    private static void stroke() {
        KitePainter kite = new KitePainter();
        Check.due("20: to the right", kite.stroke(0, 1, 3, 2, 4), 2);
        Check.dueCell("20: first", kite, 0, 1, 460);
        Check.dueCell("20: second", kite, 1, 1, 460);
        Check.dueCell("20: not the third", kite, 2, 1, 0);
        Check.dueCell("20: the mirror of the second", kite, 3, 1, 460);
        Check.dueCell("20: the mirror of the first", kite, 4, 1, 460);
        Check.due("20: upward to the edge", kite.stroke(1, 2, 0, 15, 1), 3);
        Check.dueCell("20: upward", kite, 1, 0, 160);
        Check.dueCell("20: over what was there", kite, 1, 1, 160);
        Check.dueCell("20: its mirror", kite, 3, 0, 160);
        Check.dueCell("20: not below", kite, 1, 3, 0);
        Check.due("20: downward", kite.stroke(2, 3, 1, 5, 2), 2);
        Check.dueCell("20: downward", kite, 2, 4, 260);
        Check.dueCell("20: not above", kite, 2, 2, 0);
        Check.due("20: to the left, over the middle", kite.stroke(4, 4, 2, 4, 3), 4);
        Check.dueCell("20: the mirror of the first", kite, 0, 4, 360);
        Check.due("20: painted cells", kite.count(3), 5);
        Check.due("20: one step", kite.stroke(2, 2, 0, 1, 6), 1);
        Check.due("20: one cell in the middle", kite.count(6), 1);
        KitePainter reach = Check.kite("kite 7 3;reach 1 3 0;");
        Check.due("20: as long as they are of the sail", reach.stroke(1, 1, 0, 9, 5), 1);
        Check.due("20: it does not go on behind it", reach.stroke(3, 2, 2, 9, 5), 1);
        Check.due("20: down the middle", reach.stroke(3, 0, 1, 3, 5), 3);
        Check.due("20: from a row of reach 1", reach.stroke(2, 0, 1, 9, 5), 2);
        Check.due("20: 15 steps", Check.kite("kite 15 1;").stroke(14, 0, 2, 15, 1), 15);
        Check.due("20: 14 steps", Check.kite("kite 15 1;").stroke(14, 0, 2, 14, 1), 14);
    }

    private static void strokeBySpars() {
        KitePainter kite = Check.kite("kite 7 1;spar down 2 0 1;spar down 6 0 1;");
        Check.due("20: up to a spar", kite.stroke(0, 0, 3, 7, 1), 2);
        Check.dueCell("20: the spar ends it", kite, 2, 0, 1);
        Check.dueCell("20: the mirror of the first, with a spar", kite, 6, 0, 161);
        Check.due("20: a spar at once", kite.stroke(2, 0, 3, 7, 2), 0);
        Check.dueCell("20: paints nothing", kite, 2, 0, 1);
        Check.dueCell("20: nor its mirror", kite, 4, 0, 0);
        Check.due("20: a change all the same", kite.undo(), 2);
        Check.due("20: mirrors are painted with a spar", kite.stroke(4, 0, 2, 1, 3), 1);
        Check.dueCell("20: the spar's cell", kite, 2, 0, 361);
    }

    private static void strokeWrong() {
        KitePainter kite = Check.kite("kite 5 3;reach 1 2 2;");
        int[] wrong = {-1, MIN, MAX, 16};
        for (int number : wrong) {
            Check.dueIllegal("20: way " + number, () -> kite.stroke(2, 0, number, 1, 1));
            Check.dueIllegal("20: length " + number, () -> kite.stroke(2, 0, 0, number, 1));
            Check.dueIllegal("20: colour " + number, () -> kite.stroke(2, 0, 0, 1, number));
            Check.dueOutside("20: no cell comes first", () -> kite.stroke(0, 0, number, number, number));
        }
        Check.dueIllegal("20: way 4", () -> kite.stroke(2, 0, 4, 1, 1));
        Check.dueIllegal("20: length 0", () -> kite.stroke(2, 0, 0, 0, 1));
        Check.dueIllegal("20: colour 0", () -> kite.stroke(2, 0, 0, 1, 0));
        Check.dueIllegal("20: colour 7", () -> kite.stroke(2, 0, 0, 1, 7));
        Check.dueOutside("20: (4, 0)", () -> kite.stroke(4, 0, 2, 1, 1));
        Check.dueOutside("20: (-1, 1)", () -> kite.stroke(-1, 1, 3, 3, 1));
        Check.due("20: no change", kite.undo(), 0);
    }

    private static void stamp() {
        KitePainter kite = Check.kite("kite 5 4;reach 2 1 2 2;spar down 0 2 1;pattern 120 003;pattern 1111111 1111111 1111111;pattern 0;");
        Check.due("21: three cells", kite.stamp(0, 0, 2, false), 3);
        Check.dueCell("21: with a spar", kite, 0, 2, 141);
        Check.dueCell("21: second", kite, 1, 2, 240);
        Check.dueCell("21: a digit 0 paints nothing", kite, 2, 2, 0);
        Check.dueCell("21: in the second line", kite, 2, 3, 340);
        Check.dueCell("21: a digit 0 paints nothing", kite, 0, 3, 0);
        Check.due("21: nothing has another colour then", kite.stamp(0, 0, 2, false), 0);
        kite.pass(3);
        Check.due("21: nor by wetness", kite.stamp(0, 0, 2, false), 0);
        Check.dueCell("21: wet again", kite, 1, 2, 240);
        Check.due("21: mirrored", kite.stamp(0, 0, 2, true), 2);
        Check.dueCell("21: the mirror of the first", kite, 4, 2, 140);
        Check.dueCell("21: the mirror of the second", kite, 3, 2, 240);
        Check.due("21: what is not on the sail is left out", kite.stamp(0, 3, 0, false), 2);
        Check.due("21: and its mirror, too", kite.stamp(0, 3, 1, true), 2);
        Check.dueCell("21: the first digit", kite, 3, 1, 140);
        Check.dueCell("21: its mirror", kite, 1, 1, 140);
        Check.due("21: a digit 0 alone", kite.stamp(2, 0, 0, true), 0);
        Check.due("21: a change all the same", kite.undo(), 7);
        KitePainter all = Check.kite("kite 15 12;pattern 6666666 6666666 6666666 6666666 6666666 6666666;");
        Check.due("21: 42 digits", all.stamp(0, 0, 0, false), 42);
        Check.due("21: at the lowest corner", all.stamp(0, 14, 11, false), 1);
        Check.due("21: 42 and their mirrors", all.stamp(0, 0, 6, true), 84 - 1);
        Check.due("21: over the middle", all.stamp(0, 5, 0, true), 4 * 6 + 1 * 6);
    }

    private static void stampFull() {
        KitePainter kite = Check.kite("kite 15 12;pattern 1111111 1111111 1111111 1111111 1111111 1111111;"
                + "pattern 2222222 2222222 2222222 2222222 2222222 2222222;"
                + "pattern 3333333 3333333 3333333 3333333 3333333 3333333;");
        for (int pattern = 0; pattern < 3; pattern++) {
            Check.due("21: a pattern of all digits", kite.stamp(pattern, 2, 3, false), 42);
            Check.due("21: no more than these", kite.state(5), 180 - 42);
            Check.dueCell("21: the last digit", kite, 8, 8, 140 + 100 * pattern);
        }
        Check.due("21: its mirror", kite.stamp(2, 2, 3, true), 4 * 6);
    }

    /** Digit by digit, line by line from the left, first the cell, then its mirror: the last paint counts. */
    private static void stampOrder() {
        KitePainter kite = Check.kite("kite 3 1;pattern 123;pattern 120;pattern 012;");
        Check.due("21: cells of another colour", kite.stamp(0, 0, 0, true), 3);
        Check.dueCell("21: 3 is painted last", kite, 0, 0, 340);
        Check.dueCell("21: the middle", kite, 1, 0, 240);
        Check.dueCell("21: 3 ahead of its mirror", kite, 2, 0, 340);
        Check.due("21: painted twice, back to what it was", kite.stamp(0, 0, 0, true), 0);
        Check.due("21: from the middle on", kite.stamp(2, 0, 0, true), 3);
        Check.dueCell("21: the mirror of the right one", kite, 0, 0, 240);
        Check.dueCell("21: the middle", kite, 1, 0, 140);
        KitePainter other = Check.kite("kite 3 1;pattern 103;");
        Check.due("21: not mirrored", other.stamp(0, 0, 0, false), 2);
        Check.dueCell("21: 1", other, 0, 0, 140);
        Check.dueCell("21: 3", other, 2, 0, 340);
    }

    private static void stampWrong() {
        KitePainter kite = Check.kite("kite 5 2;reach 1 2;pattern 1;pattern 2;");
        int[] wrong = {-1, 2, MIN, MAX};
        for (int pattern : wrong) {
            Check.dueOutside("21: pattern " + pattern, () -> kite.stamp(pattern, 2, 0, false));
        }
        Check.dueOutside("21: (0, 0)", () -> kite.stamp(0, 0, 0, true));
        Check.dueOutside("21: (4, 0)", () -> kite.stamp(1, 4, 0, true));
        Check.dueOutside("21: (0, -1)", () -> kite.stamp(0, 0, -1, true));
        Check.dueOutside("21: (MAX, MAX)", () -> kite.stamp(0, MAX, MAX, true));
        Check.dueOutside("21: neither", () -> kite.stamp(2, 0, 0, true));
        Check.due("21: no change", kite.undo(), 0);
    }

    private static void spar() {
        KitePainter kite = Check.kite("kite 7 4;reach 3 1 3 3;");
        Check.due("22: to the right", kite.spar(1, 0, false, 3), 3);
        Check.dueCell("22: not ahead of it", kite, 0, 0, 0);
        Check.dueCell("22: the first one", kite, 1, 0, 1);
        Check.dueCell("22: the last one", kite, 3, 0, 1);
        Check.dueCell("22: not behind it", kite, 4, 0, 0);
        Check.due("22: those that had none", kite.spar(0, 0, false, 15), 4);
        Check.due("22: none", kite.spar(0, 0, false, 15), 0);
        Check.due("22: that is a change, too", kite.undo(), 3);
        Check.due("22: downward", kite.spar(2, 1, true, 15), 3);
        Check.dueCell("22: the lowest one", kite, 2, 3, 1);
        Check.due("22: it ends where the sail ends", kite.spar(0, 0, true, 4), 0);
        Check.dueCell("22: and does not go on behind it", kite, 0, 2, 0);
        Check.due("22: from below the gap on", kite.spar(0, 2, true, 1), 1);
        Check.dueCell("22: one cell", kite, 0, 3, 0);
        kite.paint(5, 2, 3, 5, false);
        Check.due("22: over paint", kite.spar(3, 2, false, 15), 4);
        Check.dueCell("22: it leaves the paint", kite, 5, 2, 351);
        Check.due("22: 15 cells", Check.kite("kite 15 1;").spar(0, 0, false, 15), 15);
    }

    private static void sparWrong() {
        KitePainter kite = Check.kite("kite 5 2;reach 1 2;");
        int[] wrong = {0, -1, 16, MIN, MAX};
        for (int length : wrong) {
            Check.dueIllegal("22: length " + length, () -> kite.spar(2, 0, true, length));
            Check.dueOutside("22: no cell comes first", () -> kite.spar(0, 0, true, length));
        }
        Check.dueOutside("22: (0, 0)", () -> kite.spar(0, 0, true, 2));
        Check.dueOutside("22: (5, 1)", () -> kite.spar(5, 1, false, 2));
        Check.dueOutside("22: (2, 2)", () -> kite.spar(2, 2, false, 2));
        Check.due("22: no change", kite.undo(), 0);
    }

    private static void strip() {
        KitePainter kite = Check.kite("kite 5 2;reach 1 2;wood 9;spar across 0 1 4;");
        Check.due("23: the balance", kite.state(9), -9);
        Check.due("23: on the left", kite.strip(0, 1), 0);
        Check.dueCell("23: stripped", kite, 0, 1, 0);
        Check.dueCell("23: its neighbour is not", kite, 1, 1, 1);
        Check.due("23: on the right", kite.strip(3, 1), -9);
        Check.due("23: in the middle", kite.strip(2, 1), -9);
        kite.paint(1, 1, 2, 8, false);
        kite.strip(1, 1);
        Check.dueCell("23: the paint stays", kite, 1, 1, 280);
        Check.dueState("23: stripped already", () -> kite.strip(1, 1));
        Check.dueState("23: no spar", () -> kite.strip(4, 1));
        Check.dueOutside("23: (0, 0)", () -> kite.strip(0, 0));
        Check.dueOutside("23: (2, 2)", () -> kite.strip(2, 2));
        Check.dueOutside("23: (MIN, MAX)", () -> kite.strip(MIN, MAX));
        Check.due("23: six changes", kite.undo(), 5);
        Check.dueCell("23: undone", kite, 1, 1, 281);
    }

    private static void wash() {
        KitePainter kite = Check.kite("kite 5 3;reach 1 2 2;spar down 2 0 2;");
        kite.stroke(0, 1, 3, 5, 1);
        kite.paint(1, 2, 1, 9, true);
        kite.paint(2, 0, 2, 9, false);
        kite.paint(0, 2, 2, 9, true);
        // Of the middle row the spar keeps (2, 1) bare.
        Check.due("24: a region", kite.wash(0, 1), 3);
        Check.dueCell("24: bare and dry", kite, 0, 1, 0);
        Check.dueCell("24: bare and dry", kite, 1, 1, 0);
        Check.dueCell("24: bare and dry", kite, 1, 2, 0);
        Check.dueCell("24: not the other region", kite, 3, 1, 160);
        Check.dueCell("24: not another colour", kite, 0, 2, 290);
        Check.due("24: one cell with a spar", kite.wash(2, 0), 1);
        Check.dueCell("24: the spar stays", kite, 2, 0, 1);
        Check.dueState("24: bare", () -> kite.wash(2, 0));
        Check.dueState("24: bare", () -> kite.wash(1, 0));
        Check.dueOutside("24: (0, 0)", () -> kite.wash(0, 0));
        Check.dueOutside("24: (-1, -1)", () -> kite.wash(-1, -1));
        Check.due("24: seven changes", kite.undo(), 6);
        Check.dueCell("24: undone", kite, 2, 0, 291);
        KitePainter dry = Check.kite("kite 3 1;");
        dry.paint(0, 0, 1, 1, false);
        dry.paint(1, 0, 1, 1, false);
        dry.pass(1);
        Check.due("24: dry ones", dry.wash(0, 0), 2);
        Check.dueCell("24: bare", dry, 1, 0, 0);
        KitePainter great = Check.kite("kite 15 12;");
        for (int y = 0; y < 12; y++) {
            great.stroke(0, y, 3, 15, 5);
        }
        Check.due("24: all", great.wash(7, 7), 180);
        Check.due("24: all is bare", great.state(5), 180);
        Check.due("24: all is dry", great.state(12), 0);
    }

    private static void undoEachChange() {
        KitePainter kite = Check.kite("kite 5 3;pattern 12 34;spar down 0 0 2;");
        kite.paint(3, 1, 1, 9, true);
        long[] sums = new long[9];
        for (int change = 0; change < 8; change++) {
            sums[change] = kite.checksum();
            makeChange(kite, change);
        }
        Check.dueOutside("25: what throws is no change", () -> kite.paint(9, 9, 1, 1, true));
        for (int change = 7; change >= 0; change--) {
            Check.due("25: undo of change " + change, kite.undo(), change);
            Check.due("25: as ahead of change " + change, kite.checksum(), sums[change]);
        }
        Check.due("25: older changes are final", kite.undo(), -1);
        Check.due("25: nothing changes then", kite.checksum(), sums[0]);
    }

    private static void makeChange(KitePainter kite, int change) {
        switch (change) {
            case 0:
                kite.paint(2, 1, 4, 8, false);
                break;
            case 1:
                kite.pass(2);
                break;
            case 2:
                kite.stroke(1, 0, 1, 3, 5);
                break;
            case 3:
                kite.stamp(0, 3, 1, true);
                break;
            case 4:
                kite.spar(2, 2, false, 2);
                break;
            case 5:
                kite.strip(0, 1);
                break;
            case 6:
                kite.wash(1, 0);
                break;
            default:
                Check.load(kite, "kite 7 2;cloth 4;wood 6;");
                break;
        }
    }

    private static void undoLimits() {
        KitePainter kite = new KitePainter();
        Check.due("25: nothing to undo", kite.undo(), -1);
        for (int change = 0; change < 9; change++) {
            kite.pass(1);
        }
        for (int left = 7; left >= 0; left--) {
            Check.due("25: undo", kite.undo(), left);
            Check.due("25: the time", kite.state(2), left + 1);
        }
        Check.due("25: the first change is final", kite.undo(), -1);
        Check.due("25: the time", kite.state(2), 1);
        kite.pass(5);
        Check.due("25: one change more", kite.undo(), 0);
        Check.due("25: the time", kite.state(2), 1);
        Check.due("25: none", kite.undo(), -1);
        KitePainter many = new KitePainter();
        for (int change = 0; change < 100; change++) {
            many.pass(1 + change % 3);
        }
        long time = many.state(2);
        for (int change = 99; change >= 92; change--) {
            Check.due("25: undo", many.undo(), change - 92);
            time -= 1 + change % 3;
            Check.due("25: the time", many.state(2), time);
        }
        Check.due("25: no more than 8", many.undo(), -1);
    }

    /** A change is final once 8 later ones have been made, and stays so although some of them are undone. */
    private static void undoAfterUndo() {
        KitePainter kite = new KitePainter();
        for (int change = 0; change < 10; change++) {
            kite.pass(1);
        }
        kite.undo();
        kite.undo();
        Check.due("25: 5 are left", kite.undo(), 5);
        kite.paint(0, 0, 1, 9, false);
        kite.paint(1, 0, 1, 9, false);
        Check.due("25: 6 are left", kite.undo(), 6);
        Check.due("25: the later one is undone", kite.cell(1, 0, 0), 0);
        Check.due("25: not the earlier one", kite.cell(0, 0, 0), 1);
        for (int left = 5; left >= 0; left--) {
            Check.due("25: undo", kite.undo(), left);
        }
        Check.due("25: the time", kite.state(2), 2);
        Check.due("25: none", kite.undo(), -1);
    }

    private static void undoLoad() {
        KitePainter kite = Check.kite("kite 7 4;reach 3 2 1 0;cloth 3;wood 9;colour 4 50;mix 1 2 6;pattern 12 03;spar down 3 0 4;");
        kite.paint(0, 0, 4, 9, false);
        kite.pass(1);
        long before = kite.checksum();
        Check.append(kite, "kite 5 5;pattern 1;pattern 2 2;kite 5 5;");
        Check.due("25: load", kite.load(31), 25);
        Check.append(kite, "kite 3 3;");
        Check.due("25: undo of load", kite.undo(), 3);
        Check.due("25: all is back", kite.checksum(), before);
        Check.due("25: the mix", kite.mix(2, 1), 6);
        Check.due("25: the pattern", kite.pattern(0, 2), 3);
        Check.dueOutside("25: no other pattern", () -> kite.pattern(1, 0));
        Check.due("25: its digits", kite.stamp(0, 2, 0, false), 3);
        Check.dueCell("25: its last digit", kite, 3, 1, 341);
        Check.due("25: the reaches", kite.state(3), 7 + 5 + 3 + 1);
        Check.due("25: the weights", kite.cell(0, 0, 3), 53);
        Check.due("25: the input buffer is not affected", kite.load(9), 9);
        kite.undo();
        kite.undo();
        kite.undo();
        kite.undo();
        Check.due("25: the load of the first kite", kite.undo(), 0);
        Check.due("25: the bare kite", kite.checksum(), new KitePainter().checksum());
        Check.due("25: errorOffset is not affected", kite.errorOffset(), -1);
    }

    private static void exceptionsChangeNothing() {
        KitePainter kite = Check.kite("kite 5 3;reach 1 2 2;pattern 1;");
        kite.paint(0, 1, 1, 9, false);
        long before = kite.checksum();
        Check.dueIllegal("25: pass", () -> kite.pass(0));
        Check.dueIllegal("25: paint", () -> kite.paint(0, 1, 2, 10, true));
        Check.dueIllegal("25: stroke", () -> kite.stroke(0, 1, 3, 5, 7));
        Check.dueOutside("25: stamp", () -> kite.stamp(1, 0, 1, true));
        Check.dueIllegal("25: spar", () -> kite.spar(0, 1, true, 16));
        Check.dueState("25: strip", () -> kite.strip(0, 1));
        Check.dueState("25: wash", () -> kite.wash(2, 2));
        Check.dueIllegal("25: load", () -> kite.load(1));
        Check.due("25: all is as it was", kite.checksum(), before);
        Check.due("25: and no change more", kite.undo(), 1);
    }

    private static void checksum() {
        KitePainter one = Check.kite("kite 1 1;");
        int[] numbers = {1, 1, 0, 1, 0, 1, 0, 0, 0, 0, 1, 0, 0, 0, 0, 0, 1};
        Check.due("26: one cell", one.checksum(), sumOf(numbers));
        KitePainter kite = Check.kite("kite 3 2;reach 0 1;cloth 2;wood 4;colour 3 9;spar across 1 1 1;pattern 1;");
        kite.paint(2, 1, 3, 7, false);
        kite.pass(1);
        int[] more = {3, 2, 1, 4, 1, 3, 1, 2, 11, 9, 2 + 2 + 6 + 11, 1, 6,
            0, 0, 0, 2, 0, 0, 0, 2, 0, 0, 1, 6, 3, 6, 0, 11};
        Check.due("26: four cells", kite.checksum(), sumOf(more));
        Check.due("26: twice the same", kite.checksum(), sumOf(more));
        KitePainter wrapped = Check.kite("kite 15 5;");
        wrapped.stroke(0, 3, 3, 15, 6);
        long sum = 0;
        for (int what = 0; what <= 12; what++) {
            sum = 31 * sum + wrapped.state(what);
        }
        for (int number = 0; number < 75; number++) {
            for (int what = 0; what <= 3; what++) {
                sum = 31 * sum + wrapped.cell(number % 15, number / 15, what);
            }
        }
        Check.due("26: wrapped around", wrapped.checksum(), sum);
    }

    private static long sumOf(int[] numbers) {
        long sum = 0;
        for (int number : numbers) {
            sum = 31 * sum + number;
        }
        return sum;
    }
}
