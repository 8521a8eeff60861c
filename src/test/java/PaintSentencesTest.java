/** The sentences of the promises 18 to 24 that name a boundary case: a test for each. */
final class PaintSentencesTest {
    private static final int MIN = Integer.MIN_VALUE;
    private static final int MAX = Integer.MAX_VALUE;
    private static final String GREAT = "kite 15 12;";

    private PaintSentencesTest() {
    }

    public static void main(String[] args) {
        passTicks();
        passOutOfRange();
        passAnswers();
        paintWhateverWasThere();
        paintMirror();
        paintAnswersTheBalance();
        paintOutside();
        paintInRange();
        paintOutOfRange();
        strokeStepByStep();
        strokeUpToASpar();
        strokeMirrors();
        strokeWays();
        strokeOutside();
        strokeInRange();
        strokeOutOfRange();
        stampPaintsTheSail();
        stampMirrored();
        stampAnswersOtherColours();
        stampOutside();
        sparOnTheSail();
        sparAnswersNewOnes();
        sparOutside();
        sparInRange();
        sparOutOfRange();
        strip();
        stripAnswersTheBalance();
        stripOutside();
        stripWithoutASpar();
        wash();
        washAnswersBareOnes();
        washOutside();
        washOfABareCell();
        Check.end("PaintSentencesTest");
    }

    private static void passTicks() {
        Check.sentence("18", "1 to 20");
        Traces.dueChange("pass(1)", 7, kite -> kite.pass(1));
        for (int ticks = 1; ticks <= 20; ticks++) {
            KitePainter atOnce = Traces.busyKite();
            KitePainter oneByOne = Traces.busyKite();
            int bled = 0;
            for (int tick = 0; tick < ticks; tick++) {
                bled += oneByOne.pass(1);
            }
            Check.due("pass(" + ticks + ")", atOnce.pass(ticks), bled);
            Check.due("the same kite", atOnce.checksum(), oneByOne.checksum());
            Check.due("the time", atOnce.state(2), 1 + ticks);
        }
    }

    private static void passOutOfRange() {
        Check.sentence("18", "IllegalArgumentException if ticks is out of range");
        int[] wrong = {0, -1, 21, 40, MIN, MAX};
        for (int ticks : wrong) {
            Traces.dueIllegal("pass(" + ticks + ")", kite -> kite.pass(ticks));
        }
    }

    private static void passAnswers() {
        Check.sentence("18", "Returns how often something bled into a cell in them.");
        Check.due("a bare kite", Check.kite(GREAT).pass(20), 0);
        Check.due("cells that are as wet", fullKite().pass(20), 0);
        KitePainter board = Check.kite(GREAT);
        for (int number = 0; number < 180; number += 2) {
            board.paint(number % 15, number / 15, 1, 9, false);
        }
        Check.due("into each other cell", board.pass(1), 90);
        Check.due("no cell is bare", board.state(5), 0);
        KitePainter twice = Check.kite("kite 3 1;");
        twice.paint(0, 0, 1, 9, false);
        // 9 into bare: 4; 8 into 3: 5; 3 into bare: 1; 7 into 4: 5; 6 into 4: 5; then 5 and 4 are too near.
        Check.due("into one cell in several ticks", twice.pass(20), 4 + 1);
    }

    private static void paintWhateverWasThere() {
        Check.sentence("19", "Paints a cell (also one with a spar), and its mirror likewise if this is told: colour and wetness"
                + " are as told then, whatever was there.");
        KitePainter kite = Check.kite("kite 3 1;mix 1 6 3;spar down 0 0 1;");
        for (int wetness = 9; wetness >= 1; wetness--) {
            kite.paint(0, 0, wetness % 6 + 1, wetness, true);
            Check.dueCell("with a spar", kite, 0, 0, (wetness % 6 + 1) * 100 + wetness * 10 + 1);
            Check.dueCell("its mirror", kite, 2, 0, (wetness % 6 + 1) * 100 + wetness * 10);
        }
        kite.pass(1);
        kite.paint(0, 0, 6, 9, true);
        Check.dueCell("dry paint", kite, 0, 0, 691);
        Check.dueCell("its mirror", kite, 2, 0, 690);
        kite.paint(0, 0, 1, 1, true);
        Check.dueCell("wetter paint", kite, 0, 0, 111);
        Check.dueCell("its mirror", kite, 2, 0, 110);
    }

    private static void paintMirror() {
        Check.sentence("19", "whether the mirror is painted, too");
        for (int x = 0; x < 15; x++) {
            KitePainter alone = Check.kite(GREAT);
            alone.paint(x, 11, 2, 3, false);
            Check.due("one cell", alone.count(2), 1);
            Check.dueCell("the cell", alone, x, 11, 230);
            KitePainter both = Check.kite(GREAT);
            both.paint(x, 11, 2, 3, true);
            Check.due("two cells, one in the middle", both.count(2), x == 7 ? 1 : 2);
            Check.dueCell("the cell", both, x, 11, 230);
            Check.dueCell("its mirror", both, 14 - x, 11, 230);
        }
    }

    private static void paintAnswersTheBalance() {
        Check.sentence("19", "Returns the balance then.");
        KitePainter kite = Check.kite("kite 3 1;colour 1 99;colour 6 0;cloth 0;");
        Check.due("left", kite.paint(0, 0, 1, 1, false), -99);
        Check.due("both", kite.paint(0, 0, 1, 1, true), 0);
        Check.due("without weight", kite.paint(0, 0, 6, 1, false), 99);
        Check.due("the middle", kite.paint(1, 0, 1, 9, true), 99);
    }

    private static void paintOutside() {
        Check.sentence("19", "IndexOutOfBoundsException if it is no cell of the sail");
        for (int[] place : Traces.OUTSIDE) {
            Traces.dueOutside("paint(" + place[0] + ", " + place[1] + ", ..)", kite -> kite.paint(place[0], place[1], 6, 9, false));
        }
        for (int[] place : Traces.BARE_EDGES) {
            int side = Integer.compare(place[0], 3);
            Traces.dueChange("paint at an edge", -11 + 2 * side, kite -> kite.paint(place[0], place[1], 6, 9, false));
        }
    }

    private static void paintOutOfRange() {
        Check.sentence("19", "IllegalArgumentException if colour or wetness is out of range");
        int[] wrongColours = {0, 7, -1, MIN, MAX};
        int[] wrongWetness = {0, 10, -1, MIN, MAX};
        for (int colour : wrongColours) {
            Traces.dueIllegal("colour " + colour, kite -> kite.paint(3, 1, colour, 1, true));
            Traces.dueIllegal("colour " + colour, kite -> kite.paint(3, 1, colour, 9, false));
        }
        for (int wetness : wrongWetness) {
            Traces.dueIllegal("wetness " + wetness, kite -> kite.paint(3, 1, 1, wetness, true));
            Traces.dueIllegal("wetness " + wetness, kite -> kite.paint(3, 1, 6, wetness, false));
        }
    }

    private static void paintInRange() {
        Check.sentence("19", "colour: 1 to 6 - wetness: 1 to 9");
        KitePainter kite = new KitePainter();
        for (int colour = 1; colour <= 6; colour++) {
            for (int wetness = 1; wetness <= 9; wetness++) {
                kite.paint(2, 2, colour, wetness, true);
                Check.dueCell("in the range", kite, 2, 2, colour * 100 + wetness * 10);
            }
        }
    }

    private static void strokeStepByStep() {
        Check.sentence("20", "from a cell of the sail on, step by step, cells are painted (and their mirrors, with a spar or"
                + " not) as long as they are of the sail, and without a spar, and so many steps are not yet made");
        for (int length = 1; length <= 15; length++) {
            KitePainter across = Check.kite("kite 15 1;");
            Check.due("steps to the right", across.stroke(0, 0, 3, length, 1), length);
            Check.due("cells", across.count(1), Math.min(15, 2 * length));
            Check.due("steps to the left", across.stroke(14, 0, 2, length, 2), length);
            Check.due("up to the edge", across.stroke(7, 0, 3, length, 3), Math.min(8, length));
            KitePainter down = Check.kite("kite 1 12;");
            Check.due("steps downward", down.stroke(0, 0, 1, length, 1), Math.min(12, length));
            Check.due("cells", down.count(1), Math.min(12, length));
            Check.due("steps upward", down.stroke(0, 11, 0, length, 2), Math.min(12, length));
            Check.due("from the lower half on", down.stroke(0, 6, 1, length, 3), Math.min(6, length));
        }
        KitePainter reach = Check.kite("kite 5 4;reach 2 0 2 1;");
        Check.due("it ends at a cell that is not of the sail", reach.stroke(1, 0, 1, 15, 1), 1);
        Check.dueCell("and does not go on behind it", reach, 1, 2, 0);
        Check.due("upward to it", reach.stroke(1, 3, 0, 15, 1), 2);
        Check.due("to the right to it", reach.stroke(2, 3, 3, 15, 4), 2);
        Check.dueCell("the wetness 6", reach, 3, 3, 460);
        Check.dueCell("of the mirror, too", reach, 1, 3, 460);
        Check.due("a cell alone", Check.kite("kite 1 1;").stroke(0, 0, 0, 15, 1), 1);
    }

    private static void strokeUpToASpar() {
        Check.sentence("20", "(a first cell with a spar ends it at once)");
        for (int way = 0; way <= 3; way++) {
            KitePainter kite = Check.kite("kite 5 5;spar down 1 1 1;");
            long before = kite.checksum();
            Check.due("from a spar on", kite.stroke(1, 1, way, 15, 1), 0);
            Check.due("nothing is painted, no mirror either", kite.checksum(), before);
            Check.due("a change all the same", kite.undo(), 1);
        }
        KitePainter kite = Check.kite("kite 5 5;spar down 3 1 1;");
        Check.due("up to a spar on the right", kite.stroke(2, 1, 3, 15, 1), 1);
        Check.dueCell("the spar's cell", kite, 3, 1, 1);
        Check.due("a spar at the last step", kite.stroke(0, 1, 3, 3, 1), 3);
        Check.due("a spar one step behind", kite.stroke(0, 1, 3, 4, 1), 3);
        Check.due("from below", kite.stroke(3, 4, 0, 15, 2), 3);
        Check.due("from above", kite.stroke(3, 0, 1, 15, 2), 1);
        Check.due("from the right", kite.stroke(4, 1, 2, 15, 2), 1);
    }

    private static void strokeMirrors() {
        Check.sentence("20", "Returns how many steps painted a cell (mirrors not counted).");
        KitePainter kite = Check.kite("kite 7 1;spar across 4 0 3;");
        Check.due("three steps, six cells", kite.stroke(0, 0, 3, 3, 5), 3);
        Check.due("six cells", kite.count(5), 6);
        Check.dueCell("a mirror with a spar", kite, 6, 0, 561);
        Check.dueCell("a mirror with a spar", kite, 4, 0, 561);
        Check.dueCell("not the middle", kite, 3, 0, 0);
        Check.due("the middle is one cell", kite.stroke(3, 0, 2, 1, 4), 1);
        Check.due("one cell", kite.count(4), 1);
        KitePainter over = Check.kite("kite 7 1;");
        Check.due("over the middle, cells painted twice", over.stroke(0, 0, 3, 7, 5), 7);
        Check.due("seven cells", over.count(5), 7);
    }

    private static void strokeWays() {
        Check.sentence("20", "0 upward, 1 downward, 2 to the left, 3 to the right");
        int[][] ways = {{0, -1}, {0, 1}, {-1, 0}, {1, 0}};
        for (int way = 0; way <= 3; way++) {
            KitePainter kite = Check.kite("kite 7 5;");
            kite.stroke(2, 2, way, 2, 1);
            Check.dueCell("the first cell", kite, 2, 2, 160);
            Check.dueCell("the second cell", kite, 2 + ways[way][0], 2 + ways[way][1], 160);
            Check.dueCell("none the other way", kite, 2 - ways[way][0], 2 - ways[way][1], 0);
            Check.dueCell("no third one", kite, 2 + 2 * ways[way][0], 2 + 2 * ways[way][1], way == 3 ? 160 : 0);
        }
    }

    private static void strokeOutside() {
        Check.sentence("20", "IndexOutOfBoundsException if it is no cell of the sail");
        for (int[] place : Traces.OUTSIDE) {
            for (int way = 0; way <= 3; way++) {
                int told = way;
                Traces.dueOutside("stroke(" + place[0] + ", " + place[1] + ", " + way + ", ..)",
                        kite -> kite.stroke(place[0], place[1], told, 15, 6));
            }
        }
    }

    private static void strokeOutOfRange() {
        Check.sentence("20", "IllegalArgumentException if way, length or colour is out of range");
        int[] wrongWays = {-1, 4, MIN, MAX};
        int[] wrongLengths = {0, -1, 16, MIN, MAX};
        int[] wrongColours = {0, -1, 7, MIN, MAX};
        for (int way : wrongWays) {
            Traces.dueIllegal("way " + way, kite -> kite.stroke(3, 3, way, 1, 1));
        }
        for (int length : wrongLengths) {
            Traces.dueIllegal("length " + length, kite -> kite.stroke(3, 3, 0, length, 1));
            Traces.dueIllegal("length " + length + " from a spar on", kite -> kite.stroke(2, 2, 3, length, 6));
        }
        for (int colour : wrongColours) {
            Traces.dueIllegal("colour " + colour, kite -> kite.stroke(3, 3, 3, 15, colour));
            Traces.dueIllegal("colour " + colour + " from a spar on", kite -> kite.stroke(2, 2, 0, 1, colour));
        }
    }

    private static void strokeInRange() {
        Check.sentence("20", "length: 1 to 15 - colour: 1 to 6");
        for (int colour = 1; colour <= 6; colour++) {
            for (int length = 1; length <= 15; length++) {
                KitePainter kite = Check.kite("kite 15 1;");
                Check.due("stroke of the length " + length, kite.stroke(14, 0, 2, length, colour), length);
                Check.dueCell("the colour", kite, 14, 0, colour * 100 + 60);
            }
        }
    }

    private static void stampPaintsTheSail() {
        Check.sentence("21", "each digit that is not 0 paints the cell at its place with this colour and the wetness 4, if that"
                + " is a cell of the sail (with a spar or not).");
        KitePainter kite = Check.kite("kite 5 3;reach 2 1 2;spar down 1 0 1;pattern 6123456 0000000 4000010;");
        kite.paint(0, 2, 5, 9, true);
        kite.paint(1, 2, 5, 9, false);
        Check.due("cells with another colour", kite.stamp(0, 0, 0, false), 5 + 1);
        int[][] cells = {{0, 0, 640}, {1, 0, 141}, {2, 0, 240}, {3, 0, 340}, {4, 0, 440}, {1, 1, 0}, {0, 2, 440}, {1, 2, 590},
            {4, 2, 590}};
        for (int[] cell : cells) {
            Check.dueCell("the whole pattern at the first cell", kite, cell[0], cell[1], cell[2]);
        }
        Check.due("a line of 7 digits does not go on in the next row", kite.count(5), 2);
        KitePainter last = Check.kite("kite 15 12;pattern 6666666 6666666 6666666 6666666 6666666 6666666;");
        Check.due("all 42 digits", last.stamp(0, 8, 6, false), 42);
        Check.dueCell("the last digit", last, 14, 11, 640);
        Check.due("one of 42 digits", last.stamp(0, 14, 5, true), 1 + 6);
        KitePainter full = Check.kite("kite 15 12;" + "pattern 1111111 1111111 1111111 1111111 1111111 1111111;".repeat(3));
        for (int pattern = 0; pattern <= 2; pattern++) {
            Check.due("all digits of a full pattern, and no more", full.stamp(pattern, 3, 2, false), 42);
            full.wash(3, 2);
        }
        KitePainter gap = Check.kite("kite 5 3;reach 2 0 2;pattern 11 11 11;");
        Check.due("behind cells that are not of the sail", gap.stamp(0, 0, 0, false), 4);
        Check.dueCell("the last line", gap, 1, 2, 140);
        Check.due("a digit 0 alone", Check.kite("kite 1 1;pattern 0;").stamp(0, 0, 0, true), 0);
    }

    private static void stampMirrored() {
        Check.sentence("21", "If it is mirrored, the mirror of each such cell is painted with it, too (digit by digit, line by"
                + " line from the left, first the cell, then its mirror).");
        KitePainter across = Check.kite("kite 3 1;pattern 123;spar down 0 0 1;");
        across.stamp(0, 0, 0, true);
        Check.dueCell("the last digit's mirror", across, 0, 0, 341);
        Check.dueCell("the middle", across, 1, 0, 240);
        Check.dueCell("the last digit", across, 2, 0, 340);
        KitePainter zero = Check.kite("kite 3 1;pattern 120;");
        zero.stamp(0, 0, 0, true);
        Check.dueCell("the first digit", zero, 0, 0, 140);
        Check.dueCell("its mirror, where a digit 0 paints nothing", zero, 2, 0, 140);
        KitePainter rows = Check.kite("kite 3 2;pattern 12 34;");
        rows.stamp(0, 1, 0, true);
        int[][] cells = {{0, 0, 240}, {1, 0, 140}, {2, 0, 240}, {0, 1, 440}, {1, 1, 340}, {2, 1, 440}};
        for (int[] cell : cells) {
            Check.dueCell("two lines", rows, cell[0], cell[1], cell[2]);
        }
        KitePainter outside = Check.kite("kite 5 2;reach 2 1;pattern 1111 2222;");
        outside.stamp(0, 3, 0, true);
        Check.due("the mirrors of two cells of the first line", outside.count(1), 4);
        Check.due("of one cell of the second line", outside.count(2), 2);
        KitePainter alone = Check.kite("kite 5 1;pattern 10203;");
        alone.stamp(0, 0, 0, false);
        Check.dueCell("not mirrored", alone, 0, 0, 140);
        Check.dueCell("not mirrored", alone, 4, 0, 340);
        Check.dueCell("a digit 0", alone, 3, 0, 0);
    }

    private static void stampAnswersOtherColours() {
        Check.sentence("21", "Returns how many cells have another colour then than ahead of it.");
        KitePainter kite = Check.kite("kite 5 1;pattern 121;pattern 122;pattern 000;");
        Check.due("all three", kite.stamp(0, 0, 0, false), 3);
        Check.due("none", kite.stamp(0, 0, 0, false), 0);
        Check.due("one", kite.stamp(1, 0, 0, false), 1);
        kite.pass(4);
        long dry = kite.checksum();
        Check.due("wet again, but of the same colours", kite.stamp(1, 0, 0, false), 0);
        Check.due("wet cells", kite.state(6), 3);
        Check.due("another kite", kite.checksum() == dry ? 1 : 0, 0);
        Check.due("digits 0", kite.stamp(2, 0, 0, true), 0);
        KitePainter mirrored = Check.kite("kite 3 1;pattern 102;pattern 201;");
        Check.due("both painted twice", mirrored.stamp(0, 0, 0, true), 2);
        Check.due("painted over and back", mirrored.stamp(0, 0, 0, true), 0);
        Check.due("the other colour at last", mirrored.stamp(1, 0, 0, true), 2);
        KitePainter all = Check.kite("kite 13 6;pattern 6666666 6666666 6666666 6666666 6666666 6666666;");
        Check.due("all cells of the sail", all.stamp(0, 0, 0, true), 13 * 6);
    }

    private static void stampOutside() {
        Check.sentence("21", "IndexOutOfBoundsException if there is no such pattern, or it is no cell of the sail");
        int[] wrong = {-1, 2, 3, MIN, MAX};
        for (int pattern : wrong) {
            Traces.dueOutside("the pattern " + pattern, kite -> kite.stamp(pattern, 3, 3, true));
            Traces.dueOutside("neither", kite -> kite.stamp(pattern, 0, 1, true));
        }
        for (int[] place : Traces.OUTSIDE) {
            Traces.dueOutside("stamp(1, " + place[0] + ", " + place[1] + ", ..)", kite -> kite.stamp(1, place[0], place[1], false));
        }
        Traces.dueChange("stamp of the first pattern", 3, kite -> kite.stamp(0, 0, 0, false));
        Traces.dueChange("stamp of the last pattern", 1, kite -> kite.stamp(1, 0, 0, false));
        KitePainter none = new KitePainter();
        Check.dueOutside("no pattern", () -> none.stamp(0, 2, 2, true));
    }

    private static void sparOnTheSail() {
        Check.sentence("22", "Lays a spar on cells of the sail, from a cell on, downward or to the right, as long as there are"
                + " cells of the sail, at most so many.");
        for (int length = 1; length <= 15; length++) {
            Check.due("to the right", Check.kite("kite 15 1;").spar(0, 0, false, length), length);
            Check.due("to the edge", Check.kite("kite 15 1;").spar(10, 0, false, length), Math.min(5, length));
            Check.due("downward", Check.kite("kite 1 12;").spar(0, 0, true, length), Math.min(12, length));
            Check.due("to the lowest row", Check.kite("kite 1 12;").spar(0, 9, true, length), Math.min(3, length));
        }
        KitePainter kite = Check.kite("kite 5 4;reach 2 0 2 1;");
        Check.due("it ends at a cell that is not of the sail", kite.spar(0, 0, true, 15), 1);
        Check.dueCell("and does not go on behind it", kite, 0, 2, 0);
        Check.due("it ends with its row", kite.spar(3, 2, false, 15), 2);
        Check.due("at the reach", kite.spar(1, 3, false, 15), 3);
        Check.due("over spars", kite.spar(2, 0, true, 3), 3);
        Check.dueCell("no fourth one by it", kite, 1, 2, 0);
        kite.paint(4, 0, 3, 5, false);
        kite.spar(3, 0, false, 2);
        Check.dueCell("over paint", kite, 4, 0, 351);
        Check.due("no mirror", kite.cell(1, 0, 2), 0);
    }

    private static void sparAnswersNewOnes() {
        Check.sentence("22", "Returns how many cells have a spar that had none.");
        KitePainter kite = Check.kite("kite 15 1;");
        Check.due("all", kite.spar(5, 0, false, 5), 5);
        Check.due("none", kite.spar(5, 0, false, 5), 0);
        Check.due("some, beside others", kite.spar(3, 0, false, 15), 7);
        Check.due("some ahead of them", kite.spar(0, 0, false, 15), 3);
        Check.due("all cells of the sail", kite.state(4), 15);
    }

    private static void sparOutside() {
        Check.sentence("22", "IndexOutOfBoundsException if it is no cell of the sail");
        for (int[] place : Traces.OUTSIDE) {
            Traces.dueOutside("downward", kite -> kite.spar(place[0], place[1], true, 15));
            Traces.dueOutside("to the right", kite -> kite.spar(place[0], place[1], false, 15));
        }
    }

    private static void sparOutOfRange() {
        Check.sentence("22", "IllegalArgumentException if length is out of range");
        int[] wrong = {0, -1, 16, MIN, MAX};
        for (int length : wrong) {
            Traces.dueIllegal("downward " + length, kite -> kite.spar(3, 0, true, length));
            Traces.dueIllegal("to the right " + length, kite -> kite.spar(3, 0, false, length));
        }
    }

    private static void sparInRange() {
        Check.sentence("22", "length: 1 to 15");
        Traces.dueChange("spar of the length 1", 1, kite -> kite.spar(3, 0, true, 1));
        Traces.dueChange("spar of the length 15", 4, kite -> kite.spar(3, 0, true, 15));
        Traces.dueChange("spar of the length 1 to the right", 1, kite -> kite.spar(3, 0, false, 1));
        Traces.dueChange("spar of the length 15 to the right", 4, kite -> kite.spar(3, 0, false, 15));
    }

    private static void strip() {
        Check.sentence("23", "Takes the spar from a cell.");
        KitePainter kite = Check.kite("kite 15 12;spar across 0 11 15;spar down 0 0 11;");
        kite.paint(0, 11, 6, 9, false);
        kite.strip(0, 11);
        Check.due("one spar alone", kite.state(4), 25);
        Check.dueCell("the paint stays", kite, 0, 11, 690);
        for (int x = 1; x < 15; x++) {
            kite.strip(x, 11);
            Check.dueCell("stripped", kite, x, 11, 0);
        }
        for (int y = 0; y < 11; y++) {
            Check.dueCell("not stripped", kite, 0, y, 1);
            kite.strip(0, y);
        }
        Check.due("no spar is left", kite.state(4), 0);
    }

    private static void stripAnswersTheBalance() {
        Check.sentence("23", "Returns the balance then.");
        KitePainter kite = Check.kite("kite 3 1;cloth 0;wood 99;colour 1 7;spar across 0 0 3;");
        kite.paint(0, 0, 1, 9, false);
        Check.due("from the left half", kite.strip(0, 0), 99 - 7);
        Check.due("from the middle", kite.strip(1, 0), 99 - 7);
        Check.due("from the right half", kite.strip(2, 0), -7);
        Check.due("even", Check.kite("kite 3 1;spar down 2 0 1;").strip(2, 0), 0);
    }

    private static void stripOutside() {
        Check.sentence("23", "IndexOutOfBoundsException if it is no cell of the sail");
        for (int[] place : Traces.OUTSIDE) {
            Traces.dueOutside("strip(" + place[0] + ", " + place[1] + ")", kite -> kite.strip(place[0], place[1]));
        }
    }

    private static void stripWithoutASpar() {
        Check.sentence("23", "IllegalStateException if it has none");
        for (int[] place : Traces.BARE_EDGES) {
            Traces.dueState("strip(" + place[0] + ", " + place[1] + ")", kite -> kite.strip(place[0], place[1]));
        }
        Traces.dueState("strip(3, 1), painted", kite -> kite.strip(3, 1));
        KitePainter kite = Check.kite("kite 1 2;spar down 0 0 1;");
        Check.dueState("below the spar", () -> kite.strip(0, 1));
        kite.strip(0, 0);
        Check.dueState("twice", () -> kite.strip(0, 0));
        kite.undo();
        Check.due("after undo", kite.strip(0, 0), 0);
    }

    private static void wash() {
        Check.sentence("24", "Washes the region of a cell: all its cells are bare then.");
        KitePainter all = fullKite();
        all.spar(0, 0, false, 15);
        all.wash(14, 11);
        Check.due("bare cells", all.state(5), 180);
        Check.due("wet cells", all.state(6), 0);
        Check.due("the spars stay", all.state(4), 15);
        KitePainter one = new KitePainter();
        one.paint(2, 2, 1, 9, false);
        one.paint(3, 2, 2, 9, false);
        one.paint(3, 3, 1, 9, false);
        one.wash(2, 2);
        Check.dueCell("bare and dry", one, 2, 2, 0);
        Check.dueCell("not another colour", one, 3, 2, 290);
        Check.dueCell("not by a corner", one, 3, 3, 190);
        KitePainter dry = Check.kite("kite 3 1;");
        dry.stroke(0, 0, 3, 2, 4);
        dry.pass(6);
        dry.wash(2, 0);
        Check.due("bare cells, dry ahead of it", dry.state(5), 3);
    }

    private static void washAnswersBareOnes() {
        Check.sentence("24", "Returns how many cells became bare.");
        Check.due("all cells", fullKite().wash(0, 11), 180);
        KitePainter one = new KitePainter();
        one.paint(0, 0, 1, 9, true);
        Check.due("one cell", one.wash(0, 0), 1);
        Check.due("another one of its colour", one.wash(4, 0), 1);
        Traces.dueChange("wash from the end of a region", 4, kite -> kite.wash(3, 0));
        Traces.dueChange("wash from the middle of it", 4, kite -> kite.wash(3, 1));
    }

    /** The greatest kite, all cells painted. */
    private static KitePainter fullKite() {
        KitePainter kite = Check.kite(GREAT);
        for (int y = 0; y < 12; y++) {
            kite.stroke(0, y, 3, 15, 6);
        }
        return kite;
    }

    private static void washOutside() {
        Check.sentence("24", "IndexOutOfBoundsException if it is no cell of the sail");
        for (int[] place : Traces.OUTSIDE) {
            Traces.dueOutside("wash(" + place[0] + ", " + place[1] + ")", kite -> kite.wash(place[0], place[1]));
        }
    }

    private static void washOfABareCell() {
        Check.sentence("24", "IllegalStateException if the cell is bare");
        for (int[] place : Traces.BARE_EDGES) {
            Traces.dueState("wash(" + place[0] + ", " + place[1] + ")", kite -> kite.wash(place[0], place[1]));
        }
        Traces.dueState("a bare cell with a spar", kite -> kite.wash(2, 1));
        KitePainter kite = new KitePainter();
        kite.paint(0, 0, 1, 1, false);
        kite.wash(0, 0);
        Check.dueState("twice", () -> kite.wash(0, 0));
        kite.undo();
        Check.due("after undo", kite.wash(0, 0), 1);
    }
}
