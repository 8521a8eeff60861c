/** The sentences of the document ahead of its setup text that name a boundary case: a test for each. */
final class SailSentencesTest {
    private static final String LEFT_HALF = "1111111 1111111 1111111 1111111 1111111 1111111";

    private SailSentencesTest() {
    }

    public static void main(String[] args) {
        usedForAtMost512Calls();
        divisionRoundsTowardZero();
        widthAndHeight();
        numberOfACell();
        middleColumn();
        reachOfARow();
        mirrorOfACell();
        colourWetnessAndSpar();
        atFirstBare();
        neighbours();
        mixIsTheSameBothWays();
        mixOfEqualToldAndNotTold();
        atLeastTwoWetter();
        wettestThenGreatestColour();
        nothingIntoDryAndNotBare();
        nothingIfThereIsNone();
        byWhatWasThereWhenTheTickBegan();
        colourAndWetnessOfTheBledInto();
        neighbourKeepsItsOwn();
        driesByOneAlsoOnSpars();
        timeBecomesGreater();
        weightOfACell();
        halves();
        balance();
        Check.end("SailSentencesTest");
    }

    private static void usedForAtMost512Calls() {
        Check.sentence("1 to 26", "An object is used for at most 512 calls after it has been made;"
                + " what later calls answer is free.");
        KitePainter kite = new KitePainter();
        for (int call = 1; call <= 509; call++) {
            kite.pass(20);
        }
        Check.due("call 510, state(2)", kite.state(2), 509 * 20);
        Check.due("call 511, undo()", kite.undo(), 7);
        Check.due("call 512, state(2)", kite.state(2), 508 * 20);
        KitePainter great = new KitePainter();
        great.append(0x6b697465, 0x20313520, 0x31323b20, 0x20202020, 0x20202020);
        great.load(20);
        great.paint(7, 5, 1, 9, true);
        for (int call = 4; call <= 511; call++) {
            great.foretold(40, 1);
        }
        Check.due("call 512, foretold(1, 1)", great.foretold(1, 1), 180 - 5);
    }

    private static void divisionRoundsTowardZero() {
        Check.sentence("5, 6 and 18", "Division rounds toward zero.");
        KitePainter kite = Check.kite("kite 3 1;");
        kite.paint(0, 0, 1, 3, false);
        kite.pass(1);
        Check.dueCell("(0 + 3) / 2 is 1, and dries", kite, 1, 0, 100);
        kite = Check.kite("kite 3 1;");
        kite.paint(1, 0, 1, 1, false);
        kite.paint(2, 0, 1, 4, false);
        kite.pass(1);
        Check.dueCell("(1 + 4) / 2 is 2, and dries", kite, 1, 0, 110);
        Check.due("1 / 2 is 0", Check.kite("kite 1 1;").cell(0, 0, 4), 0);
        Check.due("7 / 2 is 3", Check.kite("kite 7 1;reach 0;").cell(3, 0, 4), 3);
    }

    private static void widthAndHeight() {
        Check.sentence("3 and 5", "The kite has a width (1 to 15, odd) and a height (1 to 12).");
        for (int width = 0; width <= 17; width++) {
            String text = "kite " + width + " 1;";
            if (width % 2 == 1 && width <= 15) {
                Check.dueLoaded(text, width);
                Check.due("the width", Check.kite(text).state(0), width);
            } else {
                Check.dueRange(text, 5);
            }
        }
        for (int height = 0; height <= 14; height++) {
            String text = "kite 1 " + height + ";";
            if (height >= 1 && height <= 12) {
                Check.dueLoaded(text, height);
                Check.due("the height", Check.kite(text).state(1), height);
            } else {
                Check.dueRange(text, 7);
            }
        }
    }

    private static void numberOfACell() {
        Check.sentence("6, 12 and 15", "A cell has an x from 0, from the left, and a y from 0, from the top;"
                + " its number is y * width + x.");
        KitePainter kite = Check.kite("kite 15 12;");
        Check.due("the cell above on the left", kite.cell(14, 0, 4), 0);
        Check.due("the cell below on the right", kite.cell(0, 11, 4), 179);
        Check.dueOutside("x -1", () -> kite.cell(-1, 0, 4));
        Check.dueOutside("x 15", () -> kite.cell(15, 0, 4));
        Check.dueOutside("y -1", () -> kite.cell(0, -1, 4));
        Check.dueOutside("y 12", () -> kite.cell(0, 12, 4));
        for (int number = 0; number < 180; number++) {
            KitePainter uneven = Check.kite("kite 15 12;");
            uneven.paint(number % 15, number / 15, 1, 1, false);
            Check.due("the cell whose paint is uneven", uneven.evens(0), number % 15 == 7 ? -1 : number);
        }
        Check.due("the number 0 bleeds", bleedsFrom(0, 0, 1, 0), 0);
        Check.due("the number 179 bleeds", bleedsFrom(14, 11, 14, 10), 179);
    }

    private static int bleedsFrom(int x, int y, int intoX, int intoY) {
        KitePainter kite = Check.kite("kite 15 12;");
        kite.paint(x, y, 1, 9, false);
        return kite.bleeds(intoX, intoY);
    }

    private static void middleColumn() {
        Check.sentence("5, 6 and 9", "The middle column has the x width / 2.");
        for (int width = 1; width <= 15; width += 2) {
            KitePainter kite = Check.kite("kite " + width + " 2;reach 0 " + width / 2 + ";");
            for (int x = 0; x < width; x++) {
                int column = x;
                if (x == width / 2) {
                    Check.due("the middle of the width " + width, kite.cell(x, 0, 4), x);
                } else {
                    Check.dueOutside("beside it", () -> kite.cell(column, 0, 4));
                }
            }
            kite.paint(width / 2, 1, 1, 1, false);
            Check.due("the balance by paint in the middle", kite.state(9), 0);
            Check.due("unlike pairs by it", kite.unlike(), 0);
        }
    }

    private static void reachOfARow() {
        Check.sentence("3, 6 and 19 to 24", "Each row y has a reach (0 to width / 2): the cells of the row whose x differs"
                + " from the middle by at most the reach are the sail; nothing can be done at other cells.");
        KitePainter kite = Check.kite("kite 15 8;reach 7 6 5 4 3 2 1 0;");
        Check.due("cells of the sail", kite.state(3), 15 + 13 + 11 + 9 + 7 + 5 + 3 + 1);
        for (int number = 0; number < 15 * 8; number++) {
            int x = number % 15;
            int y = number / 15;
            if (Math.abs(x - 7) <= 7 - y) {
                Check.due("(" + x + ", " + y + ")", kite.cell(x, y, 0), 0);
            } else {
                Check.dueOutside("(" + x + ", " + y + ")", () -> kite.cell(x, y, 0));
            }
        }
        Check.dueRange("kite 15 1;reach 8;", 16);
        Check.dueRange("kite 1 1;reach 1;", 15);
        Check.dueLoaded("kite 1 1;reach 0;", 1);
        KitePainter narrow = Check.kite("kite 5 2;reach 1 2;pattern 1111111 1111111;spar across 0 0 5;");
        Check.due("a spar of the text stays on the sail", narrow.state(4), 3);
        Check.due("a stamp", narrow.stamp(0, 1, 0, true), 8 - 1 + 1);
        Check.due("painted cells of the sail", narrow.state(5), 0);
        Check.due("a spar ends at the reach", narrow.spar(3, 0, false, 9), 0);
        Check.due("a stroke ends at the reach", narrow.stroke(4, 1, 0, 9, 1), 1);
    }

    private static void mirrorOfACell() {
        Check.sentence("6, 9 and 19 to 21", "The mirror of a cell is the one with the x width - 1 - x and the same y"
                + " (for the middle column the cell itself).");
        for (int width = 1; width <= 15; width += 2) {
            KitePainter kite = Check.kite("kite " + width + " 2;");
            for (int x = 0; x < width; x++) {
                Check.due("the mirror of x " + x + " of " + width, kite.cell(x, 1, 4), width + width - 1 - x);
            }
        }
        KitePainter kite = Check.kite("kite 15 12;");
        kite.paint(0, 11, 3, 9, true);
        Check.dueCell("the mirror of the first x", kite, 14, 11, 390);
        kite.paint(7, 11, 4, 9, true);
        Check.dueCell("the middle itself", kite, 7, 11, 490);
        Check.due("no other cell is painted", kite.state(5), 177);
    }

    private static void colourWetnessAndSpar() {
        Check.sentence("6, 19 and 24", "A cell of the sail has a colour (0, which is bare, to 6) and a wetness (0, which is"
                + " dry, to 9; at a bare cell it is 0), and it has a spar or not.");
        KitePainter kite = Check.kite("kite 3 1;spar down 1 0 1;");
        for (int colour = 1; colour <= 6; colour++) {
            for (int wetness = 1; wetness <= 9; wetness++) {
                kite.paint(1, 0, colour, wetness, false);
                Check.dueCell("painted", kite, 1, 0, 100 * colour + 10 * wetness + 1);
            }
        }
        kite.wash(1, 0);
        Check.dueCell("a bare cell that was wet", kite, 1, 0, 1);
        Check.due("wet cells", kite.state(6), 0);
        kite.strip(1, 0);
        Check.dueCell("without a spar", kite, 1, 0, 0);
        kite.paint(1, 0, 6, 1, false);
        kite.pass(1);
        Check.dueCell("dry and not bare", kite, 1, 0, 600);
    }

    private static void atFirstBare() {
        Check.sentence("1 and 3", "At first all cells are bare, and without spars.");
        dueAllBare(new KitePainter(), 5, 5);
        KitePainter kite = Check.kite("kite 7 3;spar down 3 0 3;");
        kite.stroke(0, 0, 3, 7, 1);
        kite.paint(0, 1, 2, 9, true);
        Check.load(kite, "kite 5 5;");
        dueAllBare(kite, 5, 5);
        dueAllBare(Check.kite("kite 15 12;"), 15, 12);
    }

    private static void dueAllBare(KitePainter kite, int width, int height) {
        Check.due("bare cells", kite.state(5), width * height);
        Check.due("wet cells", kite.state(6), 0);
        Check.due("cells with spars", kite.state(4), 0);
        for (int x = 0; x < width; x++) {
            Check.dueCell("at first", kite, x, height - 1, 0);
        }
    }

    private static void neighbours() {
        Check.sentence("10 to 12, 18 and 24", "Neighbours of a cell are the cells of the sail above, below, to the left and"
                + " to the right of it.");
        int[][] places = {{0, 0, 2}, {2, 0, 3}, {4, 0, 2}, {0, 2, 3}, {2, 2, 4}, {4, 2, 3}, {0, 4, 2}, {2, 4, 3}, {4, 4, 2}};
        for (int[] place : places) {
            KitePainter kite = new KitePainter();
            kite.paint(place[0], place[1], 1, 9, false);
            Check.due("neighbours of (" + place[0] + ", " + place[1] + ")", kite.pass(1), place[2]);
        }
        KitePainter one = Check.kite("kite 1 1;");
        one.paint(0, 0, 1, 9, false);
        Check.due("neighbours of a cell alone", one.pass(1), 0);
        Check.due("its region", one.region(0, 0), 1);
        KitePainter rows = new KitePainter();
        rows.paint(4, 0, 1, 9, false);
        rows.paint(0, 1, 1, 9, false);
        Check.due("the end of a row and the start of the next one", rows.regions(1), 2);
        KitePainter reaches = Check.kite("kite 5 3;reach 1 2 0;");
        reaches.paint(0, 1, 1, 9, false);
        Check.due("no cell of the sail is above it, below it, on its left", reaches.pass(1), 1);
        Check.dueCell("on its right", reaches, 1, 1, 130);
    }

    private static void mixIsTheSameBothWays() {
        Check.sentence("7, 14 and 18", "The mix of two colours a and b, both 1 to 6, is the same for b and a.");
        StringBuilder text = new StringBuilder("kite 3 1;");
        for (int a = 1; a <= 6; a++) {
            for (int b = a + 1; b <= 6; b++) {
                boolean isTurned = (a + b) % 2 == 0;
                text.append("mix ").append(isTurned ? b : a).append(' ').append(isTurned ? a : b).append(' ');
                text.append(told(a, b)).append(';');
            }
        }
        KitePainter kite = Check.kite(text.toString());
        for (int a = 1; a <= 6; a++) {
            for (int b = 1; b <= 6; b++) {
                int want = a == b ? a : told(Math.min(a, b), Math.max(a, b));
                Check.due("mix(" + a + ", " + b + ")", kite.mix(a, b), want);
                Check.due("mix of " + a + " and " + b + " not told", new KitePainter().mix(a, b), Math.max(a, b));
                kite.paint(0, 0, a, 9, false);
                kite.paint(1, 0, b, 1, false);
                kite.pass(1);
                Check.due(a + " bleeds into " + b, kite.cell(1, 0, 0), want);
            }
        }
    }

    private static int told(int smaller, int greater) {
        return (smaller * 5 + greater) % 6 + 1;
    }

    private static void mixOfEqualToldAndNotTold() {
        Check.sentence("7", "It is a if both are equal; otherwise it is as told, or the greater one of both if it was not"
                + " told.");
        KitePainter kite = Check.kite("kite 3 1;mix 1 6 2;mix 5 4 4;mix 2 3 6;mix 3 1 3;");
        for (int colour = 1; colour <= 6; colour++) {
            Check.due("both equal", kite.mix(colour, colour), colour);
        }
        Check.due("told, another one than both", kite.mix(6, 1), 2);
        Check.due("told, the smaller one", kite.mix(4, 5), 4);
        Check.due("told, greater than both", kite.mix(3, 2), 6);
        Check.due("told, as if it were not told", kite.mix(1, 3), 3);
        Check.due("not told, the least ones", kite.mix(1, 2), 2);
        Check.due("not told, the greatest ones", kite.mix(6, 5), 6);
    }

    private static KitePainter threeCells(int wetness, int wetnessOfNeighbour) {
        KitePainter kite = Check.kite("kite 3 1;mix 1 2 5;");
        if (wetness > 0) {
            kite.paint(1, 0, 1, wetness, false);
        }
        if (wetnessOfNeighbour > 0) {
            kite.paint(0, 0, 2, wetnessOfNeighbour, false);
        }
        return kite;
    }

    private static void atLeastTwoWetter() {
        Check.sentence("12, 14 and 18", "For each cell of the sail without a spar, by what was there when the tick began: of"
                + " its neighbours without spars whose wetness is at least 2 more than its own wetness");
        for (int own = 0; own <= 8; own++) {
            KitePainter tooNear = threeCells(own, own + 1);
            Check.due("1 more than " + own, tooNear.bleeds(1, 0), -1);
            tooNear.pass(1);
            Check.dueCell("1 more than " + own, tooNear, 1, 0, own == 0 ? 0 : 90 + 10 * own);
            if (own <= 7) {
                KitePainter wetter = threeCells(own, own + 2);
                Check.due("2 more than " + own, wetter.bleeds(1, 0), 0);
                wetter.pass(1);
                Check.due("2 more than " + own, wetter.cell(1, 0, 0), own == 0 ? 2 : 5);
            }
        }
        KitePainter into = threeCells(0, 9);
        into.spar(1, 0, true, 1);
        Check.due("into a cell with a spar", into.pass(1), 0);
        KitePainter outOf = threeCells(0, 9);
        outOf.spar(0, 0, true, 1);
        Check.due("out of a cell with a spar", outOf.pass(1), 0);
    }

    private static void wettestThenGreatestColour() {
        Check.sentence("12, 14 and 18", "the wettest one bleeds into it, of several the one with the greatest colour; if"
                + " there is none, nothing bleeds into it.");
        int[][] around = {{1, 0, 1}, {0, 1, 3}, {2, 1, 5}, {1, 2, 7}};
        for (int[] best : around) {
            KitePainter wettest = Check.kite("kite 3 3;");
            KitePainter greatest = Check.kite("kite 3 3;");
            for (int[] place : around) {
                boolean isBest = place == best;
                wettest.paint(place[0], place[1], isBest ? 1 : 6, isBest ? 9 : 8, false);
                greatest.paint(place[0], place[1], isBest ? 6 : 5, 9, false);
            }
            Check.due("the wettest one of the least colour", wettest.bleeds(1, 1), best[2]);
            Check.due("of several as wet the greatest colour", greatest.bleeds(1, 1), best[2]);
            wettest.pass(1);
            greatest.pass(1);
            Check.dueCell("the wettest one", wettest, 1, 1, 130);
            Check.dueCell("the greatest colour", greatest, 1, 1, 630);
        }
    }

    private static void nothingIntoDryAndNotBare() {
        Check.sentence("12, 14 and 18", "Nothing bleeds into a cell that is dry and not bare.");
        KitePainter kite = Check.kite("kite 3 1;");
        kite.paint(1, 0, 1, 1, false);
        kite.pass(1);
        kite.paint(0, 0, 6, 9, false);
        kite.paint(2, 0, 6, 9, false);
        Check.due("bleeds(1, 0)", kite.bleeds(1, 0), -3);
        Check.due("foretold(1, 4)", kite.foretold(1, 4), 0);
        Check.due("pass(20)", kite.pass(20), 0);
        Check.dueCell("dry and not bare", kite, 1, 0, 100);
    }

    private static void nothingIfThereIsNone() {
        Check.sentence("12 and 18", "if there is none, nothing bleeds into it.");
        KitePainter bare = new KitePainter();
        Check.due("no neighbour is wet", bare.bleeds(2, 2), -1);
        Check.due("pass(1)", bare.pass(1), 0);
        KitePainter even = Check.kite("kite 3 1;");
        even.stroke(0, 0, 3, 3, 4);
        Check.due("all are as wet", even.bleeds(1, 0), -1);
        Check.due("pass(6)", even.pass(6), 0);
        KitePainter drier = threeCells(9, 1);
        Check.due("its neighbours are drier", drier.bleeds(1, 0), -1);
    }

    private static void byWhatWasThereWhenTheTickBegan() {
        Check.sentence("14 and 18", "by what was there when the tick began");
        int[][] ways = {{0, 2, 1, 0}, {4, 2, -1, 0}, {2, 0, 0, 1}, {2, 4, 0, -1}};
        for (int[] way : ways) {
            KitePainter kite = new KitePainter();
            kite.paint(way[0], way[1], 1, 9, false);
            Check.due("bare cells foretold", kite.foretold(1, 1), 25 - 4);
            kite.pass(1);
            Check.dueCell("a neighbour", kite, way[0] + way[2], way[1] + way[3], 130);
            Check.dueCell("a neighbour's neighbour", kite, way[0] + 2 * way[2], way[1] + 2 * way[3], 0);
        }
        KitePainter chain = Check.kite("kite 5 1;mix 1 2 4;");
        chain.paint(0, 0, 1, 9, false);
        chain.paint(1, 0, 2, 4, false);
        Check.due("9, 4 and bare", chain.pass(1), 2);
        Check.dueCell("of the wettest one", chain, 1, 0, 450);
        Check.dueCell("the colour and the wetness ahead of the tick", chain, 2, 0, 210);
    }

    private static void colourAndWetnessOfTheBledInto() {
        Check.sentence("14 and 18", "Where something bleeds into a cell, its colour becomes the colour of that neighbour if"
                + " it is bare, otherwise the mix of both; its wetness becomes (its wetness + that of the neighbour) / 2.");
        for (int neighbour = 2; neighbour <= 9; neighbour++) {
            for (int own = 0; own <= neighbour - 2; own++) {
                KitePainter kite = threeCells(own, neighbour);
                kite.pass(1);
                int wetness = (own + neighbour) / 2 - 1;
                Check.dueCell(neighbour + " into " + own, kite, 1, 0, (own == 0 ? 200 : 500) + 10 * wetness);
            }
        }
    }

    private static void neighbourKeepsItsOwn() {
        Check.sentence("18", "(The neighbour keeps its own.)");
        for (int wetness = 2; wetness <= 9; wetness++) {
            KitePainter kite = new KitePainter();
            kite.paint(2, 2, 3, wetness, false);
            Check.due("into four", kite.pass(1), 4);
            Check.dueCell("drier by 1", kite, 2, 2, 300 + 10 * (wetness - 1));
        }
    }

    private static void driesByOneAlsoOnSpars() {
        Check.sentence("13, 14 and 18", "Then each wetness that is more than 0 becomes smaller by 1 (also on cells with"
                + " spars).");
        for (int wetness = 1; wetness <= 9; wetness++) {
            KitePainter kite = Check.kite("kite 1 3;spar down 0 1 2;");
            kite.paint(0, 0, 1, wetness, false);
            kite.paint(0, 2, 2, wetness, false);
            for (int left = wetness - 1; left >= -1; left--) {
                kite.pass(1);
                Check.dueCell("without a spar", kite, 0, 0, 100 + 10 * Math.max(0, left));
                Check.dueCell("with a spar", kite, 0, 2, 201 + 10 * Math.max(0, left));
            }
        }
    }

    private static void timeBecomesGreater() {
        Check.sentence("5 and 18", "Then the time becomes greater by 1.");
        KitePainter kite = new KitePainter();
        Check.due("at first", kite.state(2), 0);
        kite.pass(1);
        Check.due("a tick without wet cells", kite.state(2), 1);
        kite.paint(0, 0, 1, 9, false);
        kite.pass(1);
        Check.due("a tick with one", kite.state(2), 2);
        kite.pass(20);
        Check.due("20 ticks, of which 8 have wet cells", kite.state(2), 22);
    }

    private static void weightOfACell() {
        Check.sentence("3, 5 and 6", "The weight of a cell is the weight of the cloth (0 to 99), plus the weight of its"
                + " colour (0 to 99; a bare cell has none), plus the weight of a spar (0 to 99) if it has one.");
        KitePainter light = Check.kite("kite 3 1;cloth 0;wood 0;colour 1 0;spar down 0 0 1;");
        light.paint(0, 0, 1, 9, false);
        Check.due("all 0", light.cell(0, 0, 3), 0);
        Check.due("of the whole sail", light.state(10), 0);
        KitePainter heavy = Check.kite("kite 3 1;cloth 99;wood 99;colour 1 99;colour 6 98;spar down 0 0 1;");
        Check.due("a bare cell has no weight of a colour", heavy.cell(0, 0, 3), 99 + 99);
        Check.due("nor of a spar without one", heavy.cell(2, 0, 3), 99);
        heavy.paint(0, 0, 1, 9, true);
        Check.due("all 99", heavy.cell(0, 0, 3), 99 + 99 + 99);
        Check.due("without a spar", heavy.cell(2, 0, 3), 99 + 99);
        heavy.paint(2, 0, 6, 9, false);
        Check.due("the weight of its own colour", heavy.cell(2, 0, 3), 99 + 98);
        Check.due("of the whole sail", heavy.state(10), 3 * 99 + 99 + 98 + 99);
    }

    private static void halves() {
        Check.sentence("5 and 9", "The left half are the cells of the sail with an x less than the middle, the right half"
                + " those with a greater one.");
        for (int width = 1; width <= 15; width += 2) {
            KitePainter kite = Check.kite("kite " + width + " 1;cloth 1;");
            Check.due("the left half of the width " + width, kite.state(7), width / 2);
            Check.due("the right half", kite.state(8), width / 2);
            Check.due("all cells", kite.state(10), width);
        }
        KitePainter kite = Check.kite("kite 7 1;cloth 0;colour 1 1;colour 2 10;colour 3 40;");
        kite.paint(2, 0, 1, 1, false);
        kite.paint(3, 0, 2, 1, false);
        kite.paint(4, 0, 3, 1, false);
        Check.due("beside the middle on the left", kite.state(7), 1);
        Check.due("beside the middle on the right", kite.state(8), 40);
        Check.due("with the middle", kite.state(10), 51);
        KitePainter reach = Check.kite("kite 7 2;reach 0 1;");
        Check.due("cells of the sail alone on the left", reach.state(7), 1);
        Check.due("cells of the sail alone on the right", reach.state(8), 1);
    }

    private static void balance() {
        Check.sentence("5", "The balance is the weight of the right half less that of the left half.");
        StringBuilder text = new StringBuilder("kite 15 12;cloth 99;wood 99;colour 1 99;pattern ").append(LEFT_HALF);
        for (int y = 0; y < 12; y++) {
            text.append(";spar across 0 ").append(y).append(" 7");
        }
        KitePainter kite = Check.kite(text.append(';').toString());
        kite.stamp(0, 0, 0, false);
        kite.stamp(0, 0, 6, false);
        Check.due("the heaviest left half", kite.state(7), 84 * 297);
        Check.due("the right half", kite.state(8), 84 * 99);
        Check.due("less than 0", kite.state(9), -84 * 198);
        kite.stamp(0, 8, 0, false);
        kite.stamp(0, 8, 6, false);
        Check.due("painted alike", kite.state(9), -84 * 99);
        for (int x = 8; x < 15; x++) {
            kite.spar(x, 0, true, 12);
        }
        Check.due("the heaviest right half", kite.state(8), 84 * 297);
        Check.due("even", kite.state(9), 0);
        KitePainter right = new KitePainter();
        right.paint(4, 0, 1, 1, false);
        Check.due("more than 0", right.state(9), 2);
    }
}
