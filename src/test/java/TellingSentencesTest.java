/** The sentences of the promises 5 to 17 that name a boundary case: a test for each. */
final class TellingSentencesTest {
    private static final int MIN = Integer.MIN_VALUE;
    private static final int MAX = Integer.MAX_VALUE;
    private static final String GREAT = "kite 15 12;";

    private TellingSentencesTest() {
    }

    public static void main(String[] args) {
        stateOfEmptyAndFull();
        stateOutOfRange();
        cellOfEmptyAndFull();
        cellOutside();
        cellOutOfRange();
        mix();
        mixInRange();
        mixOutOfRange();
        count();
        coloursInRange();
        countOutOfRange();
        unlike();
        regionAsLargeAsItCanBe();
        regionOfBareCellsAndSpars();
        regionOutside();
        regions();
        regionsOutOfRange();
        bleedsOfSeveral();
        bleedsNothing();
        bleedsOutside();
        driesIn();
        foretoldTicks();
        foretoldNumbers();
        foretoldOutOfRange();
        evensTheLeast();
        evensTheSmallest();
        evensNone();
        evensOutOfRange();
        patternNumbers();
        patternOutside();
        patternOutOfRange();
        covered();
        Check.end("TellingSentencesTest");
    }

    /** The greatest kite, each cell with a spar and wet paint of one colour. */
    private static KitePainter fullKite(int colour) {
        KitePainter kite = Check.kite(GREAT);
        for (int y = 0; y < 12; y++) {
            kite.stroke(0, y, 3, 15, colour);
            kite.spar(0, y, false, 15);
        }
        return kite;
    }

    private static void dueState(String what, KitePainter kite, int... want) {
        for (int i = 0; i < want.length; i++) {
            Check.due("state(" + i + ") of " + what, kite.state(i), want[i]);
        }
    }

    private static void stateOfEmptyAndFull() {
        Check.sentence("5", "0 the width, 1 the height, 2 the time, 3 cells of the sail, 4 cells with spars, 5 bare cells,"
                + " 6 wet cells, 7 the weight of the left half, 8 that of the right half, 9 the balance, 10 the weight of all"
                + " cells, 11 patterns, 12 the greatest wetness");
        dueState("a bare kite", Check.kite(GREAT), 15, 12, 0, 180, 0, 180, 0, 84, 84, 0, 180, 0, 0);
        dueState("a full kite", fullKite(1), 15, 12, 0, 180, 180, 0, 180, 84 * 8, 84 * 8, 0, 180 * 8, 0, 6);
        KitePainter dry = fullKite(6);
        dry.pass(6);
        dueState("a dry kite", dry, 15, 12, 6, 180, 180, 0, 0, 84 * 8, 84 * 8, 0, 180 * 8, 0, 0);
        KitePainter one = Check.kite("kite 1 1;cloth 0;pattern 1;pattern 2;pattern 3;");
        dueState("one cell", one, 1, 1, 0, 1, 0, 1, 0, 0, 0, 0, 0, 3, 0);
        one.paint(0, 0, 1, 9, true);
        dueState("one wet cell", one, 1, 1, 0, 1, 0, 0, 1, 0, 0, 0, 2, 3, 9);
        one.pass(8);
        dueState("its last wet tick", one, 1, 1, 8, 1, 0, 0, 1, 0, 0, 0, 2, 3, 1);
    }

    private static void stateOutOfRange() {
        Check.sentence("5", "IllegalArgumentException if what is out of range");
        int[] wrong = {-1, 13, MIN, MAX};
        for (int what : wrong) {
            Traces.dueIllegal("state(" + what + ")", kite -> kite.state(what));
        }
        Traces.dueTold("state(0)", 7, kite -> kite.state(0));
        Traces.dueTold("state(12)", 8, kite -> kite.state(12));
    }

    private static void cellOfEmptyAndFull() {
        Check.sentence("6", "0 its colour, 1 its wetness, 2 1 if it has a spar, otherwise 0, 3 its weight, 4 the number of its"
                + " mirror");
        KitePainter kite = Check.kite("kite 15 12;cloth 99;wood 99;colour 6 99;");
        int[] bare = {0, 0, 0, 99, 179};
        int[] full = {6, 9, 1, 297, 179};
        for (int what = 0; what <= 4; what++) {
            Check.due("a bare cell, " + what, kite.cell(0, 11, what), bare[what]);
        }
        kite.paint(0, 11, 6, 9, false);
        kite.spar(0, 11, true, 1);
        for (int what = 0; what <= 4; what++) {
            Check.due("a full cell, " + what, kite.cell(0, 11, what), full[what]);
        }
        Traces.dueTold("cell(3, 3, 4)", 24, busy -> busy.cell(3, 3, 4));
    }

    private static void cellOutside() {
        Check.sentence("6", "IndexOutOfBoundsException if it is no cell of the sail");
        for (int[] place : Traces.OUTSIDE) {
            for (int what = 0; what <= 4; what++) {
                int told = what;
                Traces.dueOutside("cell(" + place[0] + ", " + place[1] + ")", kite -> kite.cell(place[0], place[1], told));
            }
        }
        for (int[] place : Traces.BARE_EDGES) {
            Traces.dueTold("cell(" + place[0] + ", " + place[1] + ")", 0, kite -> kite.cell(place[0], place[1], 0));
        }
    }

    private static void cellOutOfRange() {
        Check.sentence("6", "IllegalArgumentException if what is out of range");
        int[] wrong = {-1, 5, MIN, MAX};
        for (int what : wrong) {
            Traces.dueIllegal("cell(3, 3, " + what + ")", kite -> kite.cell(3, 3, what));
            Traces.dueOutside("cell(7, 3, " + what + ")", kite -> kite.cell(7, 3, what));
        }
    }

    private static void mix() {
        Check.sentence("7", "Returns their mix.");
        Traces.dueTold("mix(1, 1)", 1, kite -> kite.mix(1, 1));
        Traces.dueTold("mix(6, 6)", 6, kite -> kite.mix(6, 6));
        Traces.dueTold("mix(1, 6)", 6, kite -> kite.mix(1, 6));
        Traces.dueTold("mix(2, 1)", 5, kite -> kite.mix(2, 1));
    }

    private static void mixInRange() {
        Check.sentence("7", "a: a colour, 1 to 6 - b: a colour, 1 to 6");
        KitePainter kite = new KitePainter();
        for (int a = 1; a <= 6; a++) {
            for (int b = 1; b <= 6; b++) {
                Check.due("mix(" + a + ", " + b + ")", kite.mix(a, b), Math.max(a, b));
            }
        }
    }

    private static void mixOutOfRange() {
        Check.sentence("7", "IllegalArgumentException if a or b is out of range");
        int[] wrong = {0, 7, -1, MIN, MAX};
        for (int colour : wrong) {
            Traces.dueIllegal("mix(" + colour + ", 1)", kite -> kite.mix(colour, 1));
            Traces.dueIllegal("mix(6, " + colour + ")", kite -> kite.mix(6, colour));
            Traces.dueIllegal("mix of " + colour + " twice", kite -> kite.mix(colour, colour));
        }
    }

    private static void count() {
        Check.sentence("8", "Returns how many cells of the sail have this colour.");
        KitePainter bare = Check.kite(GREAT);
        for (int colour = 0; colour <= 6; colour++) {
            Check.due("count(" + colour + ") of bare cells", bare.count(colour), colour == 0 ? 180 : 0);
            Check.due("count(6) of full cells", fullKite(Math.max(1, colour)).count(6), colour == 6 ? 180 : 0);
        }
        Check.due("count(0) of full cells", fullKite(1).count(0), 0);
        Check.due("cells of the sail alone", Check.kite("kite 15 2;reach 0 1;").count(0), 4);
        Traces.dueTold("count(1)", 4, kite -> kite.count(1));
    }

    private static void coloursInRange() {
        Check.sentence("8, 11 and 15", "colour: 0 to 6");
        KitePainter kite = Check.kite("kite 15 1;cloth 0;wood 1;spar across 0 0 7;");
        for (int colour = 1; colour <= 6; colour++) {
            kite.paint(7 + colour, 0, colour, 1, false);
        }
        // The right half is heavier by 6 * 2 - 7: bare cells there make it lighter, paint at bare ones on the left, too.
        for (int colour = 0; colour <= 6; colour++) {
            Check.due("count(" + colour + ")", kite.count(colour), colour == 0 ? 9 : 1);
            Check.due("regions(" + colour + ")", kite.regions(colour), colour == 0 ? 2 : 1);
            Check.due("evens(" + colour + ")", kite.evens(colour), colour == 0 ? 8 : 0);
        }
    }

    private static void countOutOfRange() {
        Check.sentence("8", "IllegalArgumentException if colour is out of range");
        int[] wrong = {-1, 7, MIN, MAX};
        for (int colour : wrong) {
            Traces.dueIllegal("count(" + colour + ")", kite -> kite.count(colour));
        }
    }

    private static void unlike() {
        Check.sentence("9", "Returns how many pairs of a cell of the left half and its mirror have different colours.");
        Check.due("none of a bare kite", Check.kite(GREAT).unlike(), 0);
        Check.due("none of a full kite", fullKite(3).unlike(), 0);
        Check.due("none of a thin kite", Check.kite("kite 1 12;").unlike(), 0);
        KitePainter kite = Check.kite("kite 15 12;pattern 1111111 1111111 1111111 1111111 1111111 1111111;"
                + "pattern 2222222 2222222 2222222 2222222 2222222 2222222;");
        kite.stamp(0, 0, 0, false);
        kite.stamp(0, 0, 6, false);
        Check.due("all pairs, one of each bare", kite.unlike(), 84);
        kite.stamp(1, 8, 0, false);
        Check.due("all pairs, two colours", kite.unlike(), 84);
        kite.stamp(0, 8, 0, false);
        Check.due("half of the pairs are alike", kite.unlike(), 42);
        kite.stroke(7, 0, 1, 12, 5);
        Check.due("the middle is no pair", kite.unlike(), 42);
        Traces.dueTold("unlike()", 1, KitePainter::unlike);
    }

    private static void regionAsLargeAsItCanBe() {
        Check.sentence("10", "A region is a set of cells of the sail of one colour (bare ones, too), in which one can get from"
                + " each one to each other one by neighbours, as large as it can be.");
        Check.due("all cells of the greatest kite", fullKite(2).region(0, 0), 180);
        KitePainter snake = Check.kite(GREAT);
        for (int y = 1; y < 12; y += 2) {
            snake.stroke(1, y, 3, 13, 1);
            snake.paint(y % 4 == 1 ? 0 : 14, y, 1, 1, false);
        }
        Check.due("a long way of one cell's width", snake.region(0, 0), 6 * 15 + 6);
        Check.due("from its end", snake.region(0, 11), 6 * 15 + 6);
        KitePainter corners = Check.kite("kite 3 3;");
        corners.paint(0, 0, 1, 1, false);
        corners.paint(1, 1, 1, 1, false);
        corners.paint(2, 2, 1, 1, false);
        corners.paint(2, 0, 2, 1, false);
        Check.due("a corner does not join", corners.region(1, 1), 1);
        Check.due("nor another colour", corners.region(2, 0), 1);
        Check.due("nor a row's end with the next row's start", corners.region(0, 1), 3);
        Check.due("a cell alone", Check.kite("kite 1 1;").region(0, 0), 1);
    }

    private static void regionOfBareCellsAndSpars() {
        Check.sentence("10", "(Spars do not part it.)");
        KitePainter bare = Check.kite("kite 5 5;spar across 0 2 5;spar down 2 0 5;");
        Check.due("bare cells", bare.region(0, 0), 25);
        Check.due("a cell with a spar", bare.region(2, 2), 25);
        Check.due("regions(0)", bare.regions(0), 1);
        Check.due("painted cells", fullKite(4).region(14, 11), 180);
        Traces.dueTold("region(3, 3)", 18, kite -> kite.region(3, 3));
        Traces.dueTold("region(3, 1)", 4, kite -> kite.region(3, 1));
    }

    private static void regionOutside() {
        Check.sentence("10", "IndexOutOfBoundsException if it is no cell of the sail");
        for (int[] place : Traces.OUTSIDE) {
            Traces.dueOutside("region(" + place[0] + ", " + place[1] + ")", kite -> kite.region(place[0], place[1]));
        }
    }

    private static void regions() {
        Check.sentence("11", "Returns how many regions of this colour there are.");
        KitePainter bare = Check.kite(GREAT);
        Check.due("one of bare cells", bare.regions(0), 1);
        Check.due("none", bare.regions(1), 0);
        Check.due("none", bare.regions(6), 0);
        Check.due("no bare ones", fullKite(6).regions(0), 0);
        Check.due("one of all cells", fullKite(6).regions(6), 1);
        KitePainter board = Check.kite(GREAT);
        for (int number = 1; number < 180; number += 2) {
            board.paint(number % 15, number / 15, 3, 1, false);
        }
        Check.due("each other cell", board.regions(3), 90);
        Check.due("each other bare cell", board.regions(0), 90);
        Traces.dueTold("regions(1)", 1, kite -> kite.regions(1));
        Traces.dueTold("regions(6)", 0, kite -> kite.regions(6));
    }

    private static void regionsOutOfRange() {
        Check.sentence("11", "IllegalArgumentException if colour is out of range");
        int[] wrong = {-1, 7, MIN, MAX};
        for (int colour : wrong) {
            Traces.dueIllegal("regions(" + colour + ")", kite -> kite.regions(colour));
        }
    }

    private static void bleedsOfSeveral() {
        Check.sentence("12", "Returns the number of the neighbour that bleeds into it (of several that are alike in wetness"
                + " and colour the smallest number)");
        int[][] around = {{1, 0}, {0, 1}, {2, 1}, {1, 2}};
        for (int first = 0; first < 4; first++) {
            for (int second = first; second < 4; second++) {
                KitePainter kite = Check.kite("kite 3 3;");
                kite.paint(around[second][0], around[second][1], 3, 7, false);
                kite.paint(around[first][0], around[first][1], 3, 7, false);
                Check.due("two alike", kite.bleeds(1, 1), around[first][1] * 3 + around[first][0]);
            }
        }
        KitePainter zero = Check.kite("kite 3 1;");
        zero.paint(0, 0, 3, 7, true);
        Check.due("the number 0", zero.bleeds(1, 0), 0);
        KitePainter four = Check.kite("kite 3 3;");
        four.paint(0, 1, 3, 7, true);
        four.paint(1, 0, 3, 7, true);
        four.paint(1, 2, 3, 7, true);
        Check.due("four alike", four.bleeds(1, 1), 1);
        four.pass(1);
        Check.due("nothing has bled by being asked", four.state(2), 1);
        Traces.dueTold("bleeds(3, 0)", 10, kite -> kite.bleeds(3, 0));
    }

    private static void bleedsNothing() {
        Check.sentence("12", "-1 if nothing does, -2 if it has a spar, -3 if it is dry and not bare.");
        Traces.dueTold("a bare cell", -1, kite -> kite.bleeds(0, 0));
        Traces.dueTold("the wettest cell", -1, kite -> kite.bleeds(3, 1));
        Traces.dueTold("a cell with a spar", -2, kite -> kite.bleeds(2, 1));
        KitePainter kite = Check.kite("kite 3 1;");
        kite.paint(1, 0, 1, 1, false);
        Check.due("wet", kite.bleeds(1, 0), -1);
        kite.pass(1);
        Check.due("dry and not bare", kite.bleeds(1, 0), -3);
        kite.paint(0, 0, 1, 9, true);
        Check.due("dry and not bare beside wet ones", kite.bleeds(1, 0), -3);
        kite.spar(1, 0, true, 1);
        Check.due("with a spar", kite.bleeds(1, 0), -2);
        kite.wash(0, 0);
        Check.due("bare, with a spar", kite.bleeds(1, 0), -2);
        kite.strip(1, 0);
        Check.due("bare", kite.bleeds(1, 0), -1);
    }

    private static void bleedsOutside() {
        Check.sentence("12", "IndexOutOfBoundsException if it is no cell of the sail");
        for (int[] place : Traces.OUTSIDE) {
            Traces.dueOutside("bleeds(" + place[0] + ", " + place[1] + ")", kite -> kite.bleeds(place[0], place[1]));
        }
    }

    private static void driesIn() {
        Check.sentence("13", "Returns the number of ticks until no cell is wet, if only ticks pass; 0 if none is.");
        Check.due("a bare kite", Check.kite(GREAT).driesIn(), 0);
        Check.due("a full kite", fullKite(1).driesIn(), 6);
        for (int wetness = 1; wetness <= 9; wetness++) {
            KitePainter kite = new KitePainter();
            kite.paint(2, 2, 1, wetness, false);
            kite.paint(0, 0, 2, 1, false);
            Check.due("driesIn()", kite.driesIn(), wetness);
            if (wetness > 1) {
                Check.due("a tick less", kite.foretold(wetness - 1, 3) > 0 ? 1 : 0, 1);
            }
            Check.due("then", kite.foretold(wetness, 3), 0);
            kite.pass(wetness);
            Check.due("a dry kite", kite.driesIn(), 0);
        }
        KitePainter many = Check.kite("kite 1 12;");
        many.paint(0, 0, 1, 9, true);
        Check.due("bleeding does not make it longer", many.driesIn(), 9);
        Traces.dueTold("driesIn()", 8, KitePainter::driesIn);
    }

    private static void foretoldTicks() {
        Check.sentence("14", "1 to 40");
        Traces.dueTold("foretold(1, 3)", 4, kite -> kite.foretold(1, 3));
        Traces.dueTold("foretold(40, 3)", 0, kite -> kite.foretold(40, 3));
        for (int ticks = 1; ticks <= 40; ticks++) {
            KitePainter kite = Traces.busyKite();
            KitePainter passed = Traces.busyKite();
            int bled = passed.pass(Math.min(20, ticks));
            if (ticks > 20) {
                bled += passed.pass(ticks - 20);
            }
            Check.due("foretold(" + ticks + ", 0)", kite.foretold(ticks, 0), passed.state(9));
            Check.due("foretold(" + ticks + ", 1)", kite.foretold(ticks, 1), passed.state(5));
            Check.due("foretold(" + ticks + ", 2)", kite.foretold(ticks, 2), passed.unlike());
            Check.due("foretold(" + ticks + ", 3)", kite.foretold(ticks, 3), passed.state(6));
            Check.due("foretold(" + ticks + ", 4)", kite.foretold(ticks, 4), bled);
        }
    }

    private static void foretoldNumbers() {
        Check.sentence("14", "0 the balance then, 1 bare cells then, 2 unlike pairs then (as unlike tells them), 3 wet cells"
                + " then, 4 how often something bleeds into a cell in these ticks");
        KitePainter bare = Check.kite(GREAT);
        KitePainter corner = Check.kite("kite 3 3;");
        corner.paint(0, 0, 1, 9, false);
        int[] ofBare = {0, 180, 0, 0, 0};
        int[] ofCorner = {-2 - 2, 6, 2, 3, 2};
        for (int what = 0; what <= 4; what++) {
            Check.due("a bare kite, " + what, bare.foretold(1, what), ofBare[what]);
            Check.due("a corner, " + what, corner.foretold(1, what), ofCorner[what]);
            Check.due("a full kite, " + what, fullKite(5).foretold(40, what), 0);
        }
        Traces.dueTold("foretold(2, 4)", Traces.busyKite().pass(2), kite -> kite.foretold(2, 4));
    }

    private static void foretoldOutOfRange() {
        Check.sentence("14", "IllegalArgumentException if ticks or what is out of range");
        int[] wrongTicks = {0, -1, 41, MIN, MAX};
        int[] wrongWhat = {-1, 5, MIN, MAX};
        for (int ticks : wrongTicks) {
            Traces.dueIllegal("foretold(" + ticks + ", 0)", kite -> kite.foretold(ticks, 0));
            Traces.dueIllegal("foretold(" + ticks + ", 4)", kite -> kite.foretold(ticks, 4));
        }
        for (int what : wrongWhat) {
            Traces.dueIllegal("foretold(1, " + what + ")", kite -> kite.foretold(1, what));
            Traces.dueIllegal("foretold(40, " + what + ")", kite -> kite.foretold(40, what));
            Traces.dueIllegal("foretold(0, " + what + ")", kite -> kite.foretold(0, what));
        }
    }

    private static KitePainter sixWeights() {
        return Check.kite("kite 5 2;colour 1 1;colour 2 2;colour 3 3;colour 4 4;colour 5 5;colour 6 6;");
    }

    private static void evensTheLeast() {
        Check.sentence("15", "the cell of the sail (with a spar or not), at which this colour instead of its own would make the"
                + " balance (as it is now, without its sign) the least.");
        KitePainter left = sixWeights();
        left.paint(0, 0, 4, 1, false);
        Check.due("even then", left.evens(4), 3);
        Check.due("less, on the side that is too heavy", left.evens(1), 0);
        Check.due("the other sign, but less", left.evens(6), 3);
        KitePainter right = sixWeights();
        right.paint(4, 1, 5, 1, false);
        right.paint(3, 0, 2, 1, false);
        Check.due("a bare cell on the left", right.evens(6), 0);
        Check.due("its own colour is heavier", right.evens(0), 9);
        KitePainter spars = Check.kite("kite 5 1;wood 9;colour 1 9;colour 2 5;spar down 0 0 1;");
        spars.paint(1, 0, 1, 1, false);
        Check.due("the balance", spars.state(9), -18);
        spars.spar(3, 0, false, 2);
        Check.due("even", spars.state(9), 0);
        spars.paint(0, 0, 1, 1, false);
        Check.due("at a cell with a spar, the balance -9", spars.evens(1), 3);
        Check.due("at a cell with a spar, of the left half", spars.evens(0), 0);
    }

    private static void evensTheSmallest() {
        Check.sentence("15", "Returns the number of this cell, of several the smallest one");
        KitePainter left = Check.kite(GREAT);
        left.paint(0, 11, 1, 1, false);
        Check.due("of all bare cells on the right", left.evens(1), 8);
        Check.due("the only one", left.evens(0), 165);
        KitePainter right = Check.kite(GREAT);
        right.paint(14, 11, 1, 1, false);
        Check.due("of all bare cells on the left", right.evens(1), 0);
        Check.due("the last one", right.evens(0), 179);
        KitePainter both = sixWeights();
        both.paint(4, 0, 2, 1, false);
        Check.due("the balance 2, paint of the weight 1", both.evens(1), 0);
        both.paint(4, 0, 6, 1, false);
        Check.due("3 more on the left, or 3 less on the right", both.evens(3), 0);
        both.paint(1, 1, 3, 1, false);
        both.paint(0, 0, 3, 1, false);
        both.paint(4, 1, 2, 1, false);
        Check.due("as much less at two cells", both.evens(5), 0);
    }

    private static void evensNone() {
        Check.sentence("15", "-1 if none would make it less than it is.");
        KitePainter even = sixWeights();
        for (int colour = 0; colour <= 6; colour++) {
            Check.due("even already", even.evens(colour), -1);
        }
        even.paint(0, 0, 2, 1, false);
        Check.due("as much with the other sign", even.evens(4), -1);
        Check.due("more with the other sign", even.evens(5), -1);
        Check.due("1 less than that", even.evens(3), 3);
        KitePainter same = Check.kite("kite 3 1;colour 1 0;wood 3;spar down 0 0 1;");
        Check.due("paint without weight", same.evens(1), -1);
        Check.due("its own colour", same.evens(0), -1);
        KitePainter thin = Check.kite("kite 1 12;");
        thin.paint(0, 0, 1, 1, true);
        Check.due("the middle alone", thin.evens(0), -1);
        KitePainter outside = Check.kite("kite 5 2;reach 0 1;");
        outside.paint(1, 1, 1, 1, false);
        Check.due("cells of the sail alone", outside.evens(1), 8);
    }

    private static void evensOutOfRange() {
        Check.sentence("15", "IllegalArgumentException if colour is out of range");
        int[] wrong = {-1, 7, MIN, MAX};
        for (int colour : wrong) {
            Traces.dueIllegal("evens(" + colour + ")", kite -> kite.evens(colour));
        }
        Traces.dueTold("evens(0)", -1, kite -> kite.evens(0));
        Traces.dueTold("evens(6)", 4, kite -> kite.evens(6));
    }

    private static void patternNumbers() {
        Check.sentence("16", "0 the digits of a line, 1 its lines, 2 its digits that are not 0");
        KitePainter kite = Check.kite("kite 1 1;pattern 0;pattern 0000000 0000000 0000000 0000000 0000000 0000006;"
                + "pattern 1111111 2222222 3333333 4444444 5555555 6666666;");
        int[][] patterns = {{1, 1, 0}, {7, 6, 1}, {7, 6, 42}};
        for (int pattern = 0; pattern <= 2; pattern++) {
            for (int what = 0; what <= 2; what++) {
                Check.due("pattern(" + pattern + ", " + what + ")", kite.pattern(pattern, what), patterns[pattern][what]);
            }
        }
        Traces.dueTold("pattern(0, 2)", 4, busy -> busy.pattern(0, 2));
        Traces.dueTold("pattern(1, 0)", 1, busy -> busy.pattern(1, 0));
    }

    private static void patternOutside() {
        Check.sentence("16", "IndexOutOfBoundsException if there is no such pattern");
        int[] wrong = {-1, 2, 3, MIN, MAX};
        for (int pattern : wrong) {
            Traces.dueOutside("pattern(" + pattern + ", 0)", kite -> kite.pattern(pattern, 0));
        }
        KitePainter none = new KitePainter();
        Check.dueOutside("no pattern", () -> none.pattern(0, 0));
        KitePainter three = Check.kite("kite 1 1;pattern 1;pattern 1;pattern 12;");
        Check.due("the third one", three.pattern(2, 0), 2);
        Check.dueOutside("a fourth one", () -> three.pattern(3, 0));
    }

    private static void patternOutOfRange() {
        Check.sentence("16", "IllegalArgumentException if what is out of range");
        int[] wrong = {-1, 3, MIN, MAX};
        for (int what : wrong) {
            Traces.dueIllegal("pattern(0, " + what + ")", kite -> kite.pattern(0, what));
            Traces.dueIllegal("pattern(1, " + what + ")", kite -> kite.pattern(1, what));
            Traces.dueOutside("pattern(2, " + what + ")", kite -> kite.pattern(2, what));
        }
    }

    private static void covered() {
        Check.sentence("17", "Returns the cells of the sail that are not bare and all cells of the sail, both converted to"
                + " float and divided.");
        Check.dueFloat("no cell of 180", Check.kite(GREAT).covered(), 0f);
        Check.dueFloat("all of 180", fullKite(1).covered(), 1f);
        KitePainter one = Check.kite("kite 1 1;");
        Check.dueFloat("no cell of 1", one.covered(), 0f);
        one.paint(0, 0, 1, 1, false);
        Check.dueFloat("all of 1", one.covered(), 1f);
        KitePainter kite = Check.kite(GREAT);
        for (int painted = 1; painted <= 180; painted++) {
            kite.paint((painted - 1) % 15, (painted - 1) / 15, 1, 1, false);
            Check.dueFloat(painted + " cells of 180", kite.covered(), (float) painted / 180f);
        }
        KitePainter few = Check.kite("kite 15 2;reach 0 1;");
        few.paint(7, 0, 1, 1, true);
        Check.dueFloat("cells of the sail alone", few.covered(), 0.25f);
        few.pass(1);
        Check.dueFloat("dry ones", few.covered(), 0.25f);
        Traces.dueTold("covered()", Float.floatToIntBits(4f / 22f), busy -> Float.floatToIntBits(busy.covered()));
    }
}
