import java.math.BigInteger;

/** The sentences of "Setup text" that name a boundary case: a test for each. */
final class SetupSentencesTest {
    /** A text with each statement; a space between its tokens. */
    private static final String EACH = "kite 5 2 ; reach 1 2 ; cloth 3 ; wood 4 ; colour 1 9 ; mix 1 2 3 ; spar down 2 0 1 ;"
            + " spar across 1 1 2 ; pattern 12 03 ;";
    private static final int CELLS_OF_EACH = 8;
    private static final String[] TOKENS = EACH.split(" ");
    private static final String STRAY_SIGNS = "@`{}/:,.-+_#\t\n\r\0AZ\u007f\u0080\u00a0\u00b2\u00ff";
    private static final String LINE = "1234560";

    private SetupSentencesTest() {
    }

    public static void main(String[] args) {
        atMost600Bytes();
        grammar();
        grammarOfStatements();
        numbersOfAnyLength();
        linesAndWords();
        runsAsLongAsPossible();
        spacesAheadOfAnyToken();
        spacesNeeded();
        noOtherByteSeparates();
        numbersOfKite();
        numbersOfReach();
        clothAndWood();
        numbersOfColour();
        numbersOfMix();
        numbersOfSpar();
        cellsOfASpar();
        patternsLinesAndDigits();
        onceEachAndReachAheadOfSpars();
        firstErrorCounts();
        kindsAtOneOffset();
        syntaxAtItsFirstByte();
        syntaxAtTheEnd();
        syntaxOfASecondStatement();
        numberOutsideItsRange();
        lineTooLongOrNotAsLong();
        digitGreaterThan6();
        mixTwice();
        tooManyPatternsOrLines();
        errorCodes();
        Check.end("SetupSentencesTest");
    }

    private static String lines(int count, String line) {
        StringBuilder text = new StringBuilder();
        for (int i = 0; i < count; i++) {
            text.append(' ').append(line);
        }
        return text.toString();
    }

    /** The text with another token in the place of one of its tokens. */
    private static String with(int index, String token) {
        String[] tokens = TOKENS.clone();
        tokens[index] = token;
        return String.join(" ", tokens);
    }

    private static int offsetOf(int index) {
        int offset = 0;
        for (int i = 0; i < index; i++) {
            offset += TOKENS[i].length() + 1;
        }
        return offset;
    }

    /** A place of a number: both ends of its range are taken, what is beside them and what wraps around to it is not. */
    private static void dueNumber(String before, int least, int greatest, String after) {
        String[] taken = {"" + least, "" + greatest, "00" + least, "0".repeat(300) + greatest};
        for (String number : taken) {
            String text = before + number + after;
            KitePainter kite = new KitePainter();
            Check.due("load of \"" + text + "\"", Check.load(kite, text) > 0 ? 1 : 0, 1);
        }
        if (least > 0) {
            Check.dueRange(before + (least - 1) + after, before.length());
            Check.dueRange(before + "000" + (least - 1) + after, before.length());
        }
        Check.dueRange(before + (greatest + 1) + after, before.length());
        Check.dueRange(before + "   0" + (greatest + 1) + after, before.length() + 3);
        Check.dueRange(before + "9".repeat(300) + after, before.length());
        Check.dueRange(before + Integer.MAX_VALUE + after, before.length());
        int[] bits = {7, 8, 15, 16, 31, 32, 63, 64, 65, 128};
        for (int bit : bits) {
            BigInteger wrapped = BigInteger.ONE.shiftLeft(bit).add(BigInteger.valueOf(least));
            Check.dueRange(before + wrapped + after, before.length());
        }
    }

    private static void atMost600Bytes() {
        Check.sentence("2 and 3", "The setup text is read from an input buffer of at most 600 bytes.");
        String text = "kite 3 1;" + " ".repeat(582) + "cloth 42;";
        KitePainter kite = new KitePainter();
        Check.due("append of 600 bytes", Check.append(kite, text), 600);
        Check.due("append of 20 more", kite.append(0, 0, 0, 0, 0), -1);
        Check.due("load(600)", kite.load(600), 3);
        Check.due("cloth", kite.state(10), 3 * 42);
        Check.dueSyntax(text.substring(0, 599), 599);
        Check.dueSyntax(text.substring(0, 599) + "x", 599);
    }

    private static void grammar() {
        Check.sentence("3", "setup = \"kite\" number number \";\" { statement \";\" }");
        Check.dueLoaded("kite 5 2;", 10);
        Check.dueLoaded("kite 5 2;cloth 1;", 10);
        Check.dueLoaded(EACH, CELLS_OF_EACH);
        Check.dueLoaded("kite 5 2;" + "colour 1 2;".repeat(53), 10);
        Check.dueSyntax("", 0);
        Check.dueSyntax("cloth 1;", 0);
        Check.dueSyntax("kite 5 2;;", 9);
        Check.dueSyntax("kite 5 2;cloth 1;;", 17);
        Check.dueSyntax("kite 5 2", 8);
        Check.dueSyntax("kite 5 2;cloth 1", 16);
        Check.dueSyntax("kite 5 2;kite 5 2;", 9);
    }

    private static void grammarOfStatements() {
        Check.sentence("3", "statement = \"reach\" number { number } | \"cloth\" number | \"wood\" number | \"colour\" number"
                + " number | \"mix\" number number number | \"spar\" ( \"down\" | \"across\" ) number number number |"
                + " \"pattern\" line { line }");
        String[] statements = {"reach 1 2", "cloth 3", "wood 4", "colour 1 2", "mix 1 2 3", "spar down 2 1 3",
            "spar across 2 1 3", "pattern 12"};
        for (String statement : statements) {
            String text = "kite 5 2;" + statement;
            String less = text.substring(0, text.lastIndexOf(' '));
            Check.dueLoaded(text + ";", statement.startsWith("reach") ? 8 : 10);
            Check.dueSyntax(text, text.length());
            Check.dueSyntax(text + " x;", text.length() + 1);
            Check.dueSyntax(less, less.length());
            Check.dueSyntax(less + ";", less.length());
            if (statement.startsWith("pattern")) {
                Check.dueLoaded(text + " 34 56;", 10);
            } else {
                Check.dueSyntax(text + " 4;", text.length() + 1);
            }
        }
        Check.dueSyntax("kite 5 2;spar 2 1 3;", 14);
        Check.dueSyntax("kite 5 2;spar down across 2 1 3;", 19);
        Check.dueSyntax("kite 5 2;down 2 1 3;", 9);
    }

    private static void numbersOfAnyLength() {
        Check.sentence("3", "A number is a run of decimal digits, of any length (leading zeros do not matter)");
        int longest = 600 - "kite  5;".length();
        Check.dueLoaded("kite " + "0".repeat(longest - 1) + "3 5;", 15);
        Check.dueRange("kite " + "0".repeat(longest) + " 5;", 5);
        Check.dueRange("kite " + "3".repeat(longest) + " 5;", 5);
        Check.dueRange("kite 1" + "0".repeat(longest - 1) + " 5;", 5);
        Check.dueLoaded("kite 015 0000000000012;", 180);
        Check.dueRange("kite 016 5;", 5);
        Check.dueRange("kite 15 00013;", 8);
        KitePainter kite = Check.kite("kite 03 1;cloth 008;wood 0099;colour 06 010;mix 01 002 0003;spar down 02 00 01;");
        Check.due("a number that is not octal", kite.cell(0, 0, 3), 8);
        Check.due("of a spar", kite.cell(2, 0, 3), 8 + 99);
        Check.due("of a mix", kite.mix(2, 1), 3);
        Check.dueRange("kite 5 1;pattern 00000001;", 17);
    }

    private static void linesAndWords() {
        Check.sentence("3", "a line is a run of decimal digits, too; a word is a run of the letters a to z.");
        Check.dueLoaded("kite 09 1;pattern 0;", 9);
        Check.dueRange("kite 9 1;pattern 09;", 18);
        Check.dueSyntax("kite 9/1;", 6);
        Check.dueSyntax("kite 9:1;", 6);
        Check.dueSyntax("kite 9 1;pattern 0/0;", 18);
        Check.dueSyntax("kite 9 1;pattern 0:0;", 18);
        Check.dueSyntax("kitea 9 1;", 0);
        Check.dueSyntax("kitez 9 1;", 0);
        Check.dueSyntax("kite` 9 1;", 4);
        Check.dueSyntax("kite{ 9 1;", 4);
        Check.dueSyntax("kiteE 9 1;", 4);
        Check.dueSyntax("KITE 9 1;", 0);
        Check.dueSyntax("kite 9 1;Cloth 1;", 9);
    }

    private static void runsAsLongAsPossible() {
        Check.sentence("3", "Each run is as long as possible.");
        Check.dueLoaded("kite 11 12;", 132);
        Check.due("cloth 12", Check.kite("kite 1 1;cloth 12;").state(10), 12);
        Check.due("one line of 4 digits", Check.kite("kite 1 1;pattern 1203;").pattern(0, 0), 4);
        Check.dueSyntax("kite 11;", 7);
        Check.dueRange("kite 52;", 5);
        Check.dueSyntax("kitekite 5 2;", 0);
        Check.dueSyntax("kites 5 2;", 0);
        Check.dueSyntax("kite 5 2;spardown 0 0 1;", 9);
        Check.dueSyntax("kite 5 2;spar downacross 0 0 1;", 14);
        Check.dueSyntax("kite 5 2;clothwood 1;", 9);
        for (int i = 0; i < TOKENS.length; i++) {
            if (Character.isLetter(TOKENS[i].charAt(0))) {
                Check.dueSyntax(with(i, TOKENS[i] + "z"), offsetOf(i));
                Check.dueSyntax(with(i, "a" + TOKENS[i]), offsetOf(i));
                Check.dueSyntax(with(i, TOKENS[i].substring(1)), offsetOf(i));
                Check.dueSyntax(with(i, TOKENS[i].substring(0, TOKENS[i].length() - 1)), offsetOf(i));
            }
        }
    }

    private static void spacesAheadOfAnyToken() {
        Check.sentence("3", "Spaces (byte 32) may precede any token and may follow the last one");
        for (int i = 0; i < TOKENS.length; i++) {
            Check.dueLoaded(with(i, "   " + TOKENS[i]), CELLS_OF_EACH);
        }
        Check.dueLoaded("  " + EACH.replace(" ", "    ") + "     ", CELLS_OF_EACH);
        Check.dueLoaded(EACH + " ".repeat(600 - EACH.length()), CELLS_OF_EACH);
        Check.dueLoaded(" ".repeat(600 - EACH.length()) + EACH, CELLS_OF_EACH);
    }

    private static void spacesNeeded() {
        Check.sentence("3", "they are needed only between two numbers or lines, and between two words.");
        String tight = "kite5 2;reach1 2;cloth3;wood4;colour1 9;mix1 2 3;spar down2 0 1;spar across1 1 2;pattern12 03;";
        Check.dueLoaded(tight, CELLS_OF_EACH);
        Check.due("the same as with spaces", Check.kite(tight).checksum(), Check.kite(EACH).checksum());
        for (int at = 1; at < tight.length(); at++) {
            if (tight.charAt(at) == ' ') {
                String text = tight.substring(0, at) + tight.substring(at + 1);
                boolean isLine = at == tight.lastIndexOf(' ');
                Check.due("load of \"" + text + "\"", Check.load(new KitePainter(), text) > 0 ? 1 : 0, isLine ? 1 : 0);
            }
        }
        String oneLine = tight.replace("12 03", "1203");
        Check.due("two lines without a space are one", Check.kite(oneLine).pattern(0, 1), 1);
        Check.due("with it two", Check.kite(tight).pattern(0, 1), 2);
    }

    private static void noOtherByteSeparates() {
        Check.sentence("3", "No other byte separates tokens.");
        for (int sign = 0; sign < 256; sign++) {
            if (sign == ' ') {
                continue;
            }
            char other = (char) sign;
            Check.dueSyntax(other + "kite 5 2;", 0);
            Check.dueSyntax("kite 5 2;" + other, 9);
            Check.dueSyntax("kite 5 2;cloth 1 " + other + ";", sign == ';' ? 18 : 17);
            if (other < '0' || other > '9') {
                Check.dueSyntax("kite 5" + other + "2;", 6);
                Check.dueSyntax("kite" + other + "5 2;", other >= 'a' && other <= 'z' ? 0 : 4);
                Check.dueSyntax("kite 5 2;spar" + other + "down 0 0 1;", other >= 'a' && other <= 'z' ? 9 : 13);
                Check.dueSyntax("kite 5 2;pattern 1" + other + "2;", other == ';' ? 19 : 18);
            }
        }
    }

    private static void numbersOfKite() {
        Check.sentence("3", "The numbers of kite are the width and the height.");
        dueNumber("kite ", 1, 15, " 5;");
        dueNumber("kite 5 ", 1, 12, ";");
        for (int width = 2; width <= 14; width += 2) {
            Check.dueRange("kite " + width + " 5;", 5);
        }
        KitePainter kite = Check.kite("kite 3 4;");
        Check.due("the width", kite.state(0), 3);
        Check.due("the height", kite.state(1), 4);
    }

    private static void numbersOfReach() {
        Check.sentence("3", "Those of reach are the reaches of the rows from the top, as many as the height (all width / 2"
                + " without it).");
        dueNumber("kite 7 2;reach ", 0, 3, " 1;");
        dueNumber("kite 7 2;reach 1 ", 0, 3, ";");
        dueNumber("kite 1 1;reach ", 0, 0, ";");
        dueNumber("kite 15 1;reach ", 0, 7, ";");
        KitePainter kite = Check.kite("kite 7 3;reach 0 1 3;");
        Check.due("cells of all rows", kite.state(3), 1 + 3 + 7);
        Check.dueOutside("the top row has the first reach", () -> kite.cell(2, 0, 0));
        Check.due("the last row has the last one", kite.cell(0, 2, 0), 0);
        Check.dueLoaded("kite 15 12;", 180);
        Check.dueLoaded("kite 15 12;reach 7 7 7 7 7 7 7 7 7 7 7 7;", 180);
        Check.dueLoaded("kite 15 12;reach 0 0 0 0 0 0 0 0 0 0 0 0;", 12);
        Check.dueSyntax("kite 5 1;reach;", 14);
        Check.dueSyntax("kite 5 2;reach 1;", 16);
        Check.dueSyntax("kite 5 2;reach 1 1 1;", 19);
        Check.dueSyntax("kite 5 2;reach 1 1 99;", 19);
        Check.dueSyntax("kite 15 12;reach 7 7 7 7 7 7 7 7 7 7 7;", 38);
        Check.dueSyntax("kite 15 12;reach 7 7 7 7 7 7 7 7 7 7 7 7 7;", 41);
    }

    private static void clothAndWood() {
        Check.sentence("3", "Cloth is the weight of the cloth (1 without it), wood that of a spar (5 without it).");
        dueNumber("kite 5 2;cloth ", 0, 99, ";");
        dueNumber("kite 5 2;wood ", 0, 99, ";");
        KitePainter without = Check.kite("kite 1 1;spar down 0 0 1;");
        Check.due("without both", without.state(10), 1 + 5);
        KitePainter with = Check.kite("kite 1 1;spar down 0 0 1;cloth 99;wood 0;");
        Check.due("with both", with.state(10), 99);
        Check.due("loaded anew without both", Check.load(with, "kite 1 1;spar down 0 0 1;"), 1);
        Check.due("without both", with.state(10), 1 + 5);
    }

    private static void numbersOfColour() {
        Check.sentence("3", "The numbers of colour are a colour (1 to 6) and its weight (2 without it; the last one"
                + " counts).");
        dueNumber("kite 5 2;colour ", 1, 6, " 3;");
        dueNumber("kite 5 2;colour 1 ", 0, 99, ";");
        KitePainter kite = Check.kite("kite 1 1;cloth 0;colour 1 10;colour 2 99;colour 1 30;colour 2 0;colour 1 20;");
        int[] weights = {0, 20, 0, 2, 2, 2, 2};
        for (int colour = 1; colour <= 6; colour++) {
            kite.paint(0, 0, colour, 1, false);
            Check.due("the weight of " + colour, kite.state(10), weights[colour]);
        }
    }

    private static void numbersOfMix() {
        Check.sentence("3", "Those of mix are two colours (1 to 6, different ones) and their mix (1 to 6).");
        dueNumber("kite 5 2;mix ", 1, 6, " 2 3;");
        dueNumber("kite 5 2;mix 5 ", 1, 6, " 3;");
        dueNumber("kite 5 2;mix 2 5 ", 1, 6, ";");
        for (int colour = 1; colour <= 6; colour++) {
            Check.dueRange("kite 5 2;mix " + colour + " " + colour + " 3;", 15);
            Check.dueRange("kite 5 2;mix " + colour + "  00" + colour + " 3;", 16);
        }
        StringBuilder all = new StringBuilder("kite 5 2;");
        for (int a = 1; a <= 6; a++) {
            for (int b = a + 1; b <= 6; b++) {
                all.append("mix ").append(b).append(' ').append(a).append(" 1;");
            }
        }
        Check.dueLoaded(all.toString(), 10);
    }

    private static void numbersOfSpar() {
        Check.sentence("3", "Those of spar are the x and the y of its first cell (of the sail or not), and its length (1 to"
                + " 15)");
        String[] ways = {"down", "across"};
        for (String way : ways) {
            dueNumber("kite 5 3;spar " + way + " ", 0, 4, " 1 1;");
            dueNumber("kite 5 3;spar " + way + " 1 ", 0, 2, " 1;");
            dueNumber("kite 5 3;spar " + way + " 4 2 ", 1, 15, ";");
            dueNumber("kite 15 12;spar " + way + " ", 0, 14, " 11 15;");
            dueNumber("kite 15 12;spar " + way + " 14 ", 0, 11, " 15;");
            Check.due("first cell not of the sail", Check.kite("kite 5 1;reach 0;spar " + way + " 0 0 1;").state(4), 0);
            Check.due("first cell of the sail", Check.kite("kite 5 1;reach 0;spar " + way + " 2 0 1;").state(4), 1);
        }
        Check.due("15 cells", Check.kite("kite 15 1;spar across 0 0 15;").state(4), 15);
        Check.due("14 cells", Check.kite("kite 15 1;spar across 0 0 14;").state(4), 14);
        Check.due("12 cells", Check.kite("kite 1 12;spar down 0 0 15;").state(4), 12);
        Check.due("11 cells", Check.kite("kite 1 12;spar down 0 0 11;").state(4), 11);
    }

    private static void cellsOfASpar() {
        Check.sentence("3", "it lies on so many cells from there on, downward, or to the right; cells that are not of the"
                + " sail stay without it.");
        KitePainter kite = Check.kite("kite 5 4;reach 2 0 1 2;spar down 0 0 4;spar across 0 2 3;");
        int[][] spars = {{0, 0}, {0, 3}, {1, 2}, {2, 2}};
        Check.due("cells with spars", kite.state(4), spars.length);
        for (int[] place : spars) {
            Check.due("a spar at (" + place[0] + ", " + place[1] + ")", kite.cell(place[0], place[1], 2), 1);
        }
        KitePainter rows = Check.kite("kite 5 3;spar across 4 0 15;spar down 0 2 15;spar across 1 1 2;");
        Check.due("a spar ends with its row and with the last row", rows.state(4), 4);
        Check.due("not on the next row", rows.cell(0, 1, 2), 0);
        Check.due("its own cells", rows.cell(1, 1, 2) + rows.cell(2, 1, 2), 2);
        Check.due("those that lie on one another", Check.kite("kite 3 3;spar down 1 0 3;spar across 0 1 3;").state(4), 5);
    }

    private static void patternsLinesAndDigits() {
        Check.sentence("3", "A pattern has 1 to 6 lines of 1 to 7 digits 0 to 6, all as long as the first one; at most 3"
                + " patterns can be told.");
        for (int digits = 1; digits <= 7; digits++) {
            for (int lines = 1; lines <= 6; lines++) {
                KitePainter kite = Check.kite("kite 5 1;pattern" + lines(lines, LINE.substring(0, digits)) + ";");
                Check.due("digits", kite.pattern(0, 0), digits);
                Check.due("lines", kite.pattern(0, 1), lines);
                Check.due("digits that are not 0", kite.pattern(0, 2), lines * Math.min(6, digits));
            }
        }
        Check.dueSyntax("kite 5 1;pattern;", 16);
        Check.dueRange("kite 5 1;pattern 11111111;", 17);
        Check.dueError("kite 5 1;pattern 0 1 2 3 4 5 6;", KitePainter.TOO_MANY, 29);
        Check.dueRange("kite 5 1;pattern 7;", 17);
        Check.dueRange("kite 5 1;pattern 11 1;", 20);
        Check.dueRange("kite 5 1;pattern 11 111;", 20);
        Check.due("no pattern", Check.kite("kite 5 1;").state(11), 0);
        String full = "pattern" + lines(6, LINE) + ";";
        Check.due("3 patterns", Check.kite("kite 5 1;" + full.repeat(3)).state(11), 3);
        Check.dueError("kite 5 1;" + full.repeat(4), KitePainter.TOO_MANY, 9 + 3 * full.length());
    }

    private static void onceEachAndReachAheadOfSpars() {
        Check.sentence("3", "The statements reach, cloth and wood may occur once each, and reach only ahead of all spars.");
        Check.dueLoaded("kite 5 1;reach 1;cloth 1;wood 1;spar down 2 0 1;spar down 2 0 1;", 3);
        Check.dueLoaded("kite 5 1;wood 1;cloth 1;pattern 1;mix 1 2 3;colour 1 1;reach 1;spar down 2 0 1;", 3);
        Check.dueLoaded("kite 5 1;spar down 2 0 1;cloth 1;spar down 2 0 1;wood 1;", 5);
        String[] once = {"reach 1;", "cloth 1;", "wood 1;"};
        for (String statement : once) {
            Check.dueLoaded("kite 5 1;" + statement, statement.startsWith("reach") ? 3 : 5);
            Check.dueSyntax("kite 5 1;" + statement + statement, 9 + statement.length());
            Check.dueSyntax("kite 5 1;" + statement + "colour 1 1;" + statement, 20 + statement.length());
        }
        Check.dueSyntax("kite 5 1;spar down 2 0 1;reach 1;", 25);
        Check.dueSyntax("kite 5 1;spar across 2 0 1;cloth 1;reach 1;", 35);
        KitePainter kite = Check.kite("kite 5 1;reach 1;cloth 9;wood 9;");
        Check.due("once in each text", Check.load(kite, "kite 5 1;reach 2;cloth 9;wood 9;"), 5);
    }

    private static void firstErrorCounts() {
        Check.sentence("3 and 4", "The first error in the text is the one with the smallest offset.");
        String[] faults = {"cloth 100;", "colour x 1;", "mix 1 2 3;", "pattern 1 1 1 1 1 1 1;", "pattern 7;"};
        int[] codes = {-3, -2, -4, -5, -3};
        int[] places = {6, 7, 6, 20, 8};
        String start = "kite 5 1;mix 1 2 3;";
        for (int first = 0; first < faults.length; first++) {
            for (String second : faults) {
                Check.dueError(start + faults[first] + second, codes[first], start.length() + places[first]);
            }
            Check.dueError(start + faults[first], codes[first], start.length() + places[first]);
        }
        Check.dueRange("kite 4 x", 5);
        Check.dueSyntax("kite x 4;", 5);
        Check.dueRange("kite 5 1;pattern 18 1;", 18);
        Check.dueRange("kite 5 1;pattern 1 18;", 19);
        Check.dueRange("kite 5 1;cloth 100", 15);
    }

    private static void kindsAtOneOffset() {
        Check.sentence("3", "If several kinds of error have the same offset, the first one in this list counts");
        String six = "kite 5 1;pattern" + lines(6, "11") + " ";
        int seventh = six.length();
        Check.dueError(six + "11;", KitePainter.TOO_MANY, seventh);
        Check.dueRange(six + "71;", seventh);
        Check.dueRange(six + "1;", seventh);
        Check.dueRange(six + "111;", seventh);
        Check.dueRange(six + "11111111;", seventh);
        Check.dueError(six + "17;", KitePainter.TOO_MANY, seventh);
        Check.dueSyntax(six + "x;", seventh);
        Check.dueSyntax("kite 5 1;reach 1 9;", 17);
        Check.dueSyntax("kite 5 1;pattern 1;pattern 1;pattern 1;patterns 1;", 39);
        Check.dueRange("kite 5 1;mix 1 2 3;mix 2 2 3;", 25);
    }

    private static void syntaxAtItsFirstByte() {
        Check.sentence("3 and 4", "SYNTAX_ERROR: a token or byte that the grammar does not allow here, at its first byte");
        for (int i = 0; i < TOKENS.length; i++) {
            char first = TOKENS[i].charAt(0);
            boolean isSecondLine = i == TOKENS.length - 2;
            for (char stray : STRAY_SIGNS.toCharArray()) {
                Check.dueSyntax(with(i, "" + stray), offsetOf(i));
                Check.dueSyntax(with(i, TOKENS[i] + stray), offsetOf(i) + TOKENS[i].length());
            }
            for (int letter = 0; letter < TOKENS[i].length() && Character.isLetter(first); letter++) {
                String other = TOKENS[i].substring(0, letter) + "q" + TOKENS[i].substring(letter + 1);
                Check.dueSyntax(with(i, other), offsetOf(i));
            }
            Check.dueSyntax(with(i, "kitf"), offsetOf(i));
            if (first != ';' && !isSecondLine) {
                Check.dueSyntax(with(i, ";"), offsetOf(i));
            }
            if (!Character.isDigit(first) && i != TOKENS.length - 1) {
                Check.dueSyntax(with(i, "1"), offsetOf(i));
            }
        }
    }

    private static void syntaxAtTheEnd() {
        Check.sentence("3 and 4", "the end of the text, at its length, if the text ends too early");
        for (int tokens = 0; tokens <= TOKENS.length; tokens++) {
            String text = EACH.substring(0, Math.max(0, offsetOf(tokens) - 1));
            for (int spaces = 0; spaces <= 2; spaces++) {
                if (text.trim().endsWith(";")) {
                    Check.due("load of \"" + text + "\"", Check.load(new KitePainter(), text) > 0 ? 1 : 0, 1);
                } else {
                    Check.dueSyntax(text, text.length());
                }
                text = text + " ";
            }
        }
        Check.dueSyntax(" ".repeat(600), 600);
        Check.dueSyntax("kite 5 1;" + " ".repeat(586) + "cloth", 600);
    }

    private static void syntaxOfASecondStatement() {
        Check.sentence("3 and 4", "a second reach, cloth or wood, and a reach behind a spar, at its first letter.");
        Check.dueSyntax("kite 5 1;reach 1; reach 1;", 18);
        Check.dueSyntax("kite 5 1;reach 1;  reach", 19);
        Check.dueSyntax("kite 5 1;reach 1;reach 99;", 17);
        Check.dueSyntax("kite 5 1;cloth 1; cloth 1;", 18);
        Check.dueSyntax("kite 5 1;cloth 1;cloth 100;", 17);
        Check.dueSyntax("kite 5 1;wood 1; wood 1;", 17);
        Check.dueSyntax("kite 5 1;wood 1;wood", 16);
        Check.dueSyntax("kite 5 1;spar down 0 0 1; reach 1;", 26);
        Check.dueSyntax("kite 5 1;reach 1;spar down 0 0 1; reach 1;", 34);
    }

    private static void numberOutsideItsRange() {
        Check.sentence("3 and 4", "OUT_OF_RANGE: a number outside its range, at its first digit (an even width; a cell that"
                + " there is not; of mix the second colour if it is the first one)");
        Check.dueRange("kite   0016 5;", 7);
        Check.dueRange("kite 0014 5;", 5);
        Check.dueRange("kite 0 5;", 5);
        Check.dueRange("kite 5 5;spar down 5 0 1;", 19);
        Check.dueRange("kite 5 5;spar down  4  5 1;", 23);
        Check.dueRange("kite 5 5;spar across 005 0 1;", 21);
        Check.dueRange("kite 5 5;spar across 0 005 1;", 23);
        Check.dueLoaded("kite 5 5;spar down 4 4 1;", 25);
        Check.dueRange("kite 5 5;mix 3 3 1;", 15);
        Check.dueRange("kite 5 5;mix 03  003 1;", 17);
        Check.dueRange("kite 5 5;mix 7 7 1;", 13);
        Check.dueLoaded("kite 5 5;mix 3 4 3;", 25);
    }

    private static void lineTooLongOrNotAsLong() {
        Check.sentence("3 and 4", "a line that is longer than 7 digits or not as long as the first one, at its first digit");
        Check.dueLoaded("kite 5 1;pattern 0000000 1111111;", 5);
        Check.dueRange("kite 5 1;pattern 00000000;", 17);
        Check.dueRange("kite 5 1;pattern  00000009;", 18);
        Check.dueRange("kite 5 1;pattern " + "1".repeat(580) + ";", 17);
        for (int first = 1; first <= 7; first++) {
            for (int second = 1; second <= 8; second++) {
                String start = "kite 5 1;pattern " + "0".repeat(first) + " ";
                String text = start + "6".repeat(second) + ";";
                if (first == second) {
                    Check.dueLoaded(text, 5);
                } else {
                    Check.dueRange(text, start.length());
                }
            }
        }
        Check.dueRange("kite 5 1;pattern 11" + lines(4, "11") + " 1;", 32);
        Check.dueLoaded("kite 5 1;pattern 11;pattern 1;pattern 111;", 5);
    }

    private static void digitGreaterThan6() {
        Check.sentence("3 and 4", "a digit of a line that is greater than 6, at it.");
        for (int at = 0; at < 7; at++) {
            for (char digit = '0'; digit <= '9'; digit++) {
                String text = "kite 5 1;pattern 0000000 " + "0".repeat(at) + digit + "0".repeat(6 - at) + ";";
                if (digit <= '6') {
                    Check.dueLoaded(text, 5);
                } else {
                    Check.dueRange(text, 25 + at);
                    Check.dueRange(text.replace("0000000 ", ""), 17 + at);
                }
            }
        }
        Check.dueRange("kite 5 1;pattern 0789;", 18);
    }

    private static void mixTwice() {
        Check.sentence("3 and 4", "REPEATED: a mix of two colours (in either order) that was told already, at the second"
                + " one.");
        for (int a = 1; a <= 6; a++) {
            for (int b = 1; b <= 6; b++) {
                if (a != b) {
                    dueMixTwice(a, b);
                }
            }
        }
        KitePainter kite = Check.kite("kite 5 1;mix 1 2 3;");
        Check.due("told in another text", Check.load(kite, "kite 5 1;mix 1 2 3;"), 5);
    }

    private static void dueMixTwice(int a, int b) {
        String text = "kite 5 1;mix " + a + " " + b + " 1;";
        Check.dueError(text + "mix " + a + " " + b + " 1;", KitePainter.REPEATED, 25);
        Check.dueError(text + "cloth 1;mix " + b + "  0" + a + " 9;", KitePainter.REPEATED, 34);
        for (int other = 1; other <= 6; other++) {
            if (other != a && other != b) {
                Check.dueLoaded(text + "mix " + a + " " + other + " 1;mix " + other + " " + b + " 1;", 5);
            }
        }
    }

    private static void tooManyPatternsOrLines() {
        Check.sentence("3 and 4", "TOO_MANY: a 4th pattern, at its first letter; a 7th line of a pattern, at its first"
                + " digit.");
        String three = "kite 5 1;pattern 1;pattern 1;pattern 1;";
        Check.dueLoaded(three, 5);
        Check.dueError(three + "pattern 1;", KitePainter.TOO_MANY, 39);
        Check.dueError(three + "   pattern", KitePainter.TOO_MANY, 42);
        Check.dueError(three + "cloth 1;pattern 9;", KitePainter.TOO_MANY, 47);
        for (int pattern = 0; pattern < 3; pattern++) {
            String start = "kite 5 1;" + "pattern 1;".repeat(pattern) + "pattern" + lines(6, "000");
            Check.dueLoaded(start + ";", 5);
            Check.dueError(start + " 000;", KitePainter.TOO_MANY, start.length() + 1);
            Check.dueError(start + "   000 000", KitePainter.TOO_MANY, start.length() + 3);
        }
    }

    private static void errorCodes() {
        Check.sentence("3", "SYNTAX_ERROR = -2: Error code of load: the text does not follow the grammar.");
        Check.dueError("kite", -2, 4);
        Check.due("SYNTAX_ERROR", KitePainter.SYNTAX_ERROR, -2);
        Check.sentence("3", "OUT_OF_RANGE = -3: Error code of load: a number or a line is not allowed.");
        Check.dueError("kite 2 1;", -3, 5);
        Check.due("OUT_OF_RANGE", KitePainter.OUT_OF_RANGE, -3);
        Check.sentence("3", "REPEATED = -4: Error code of load: a mix is told twice.");
        Check.dueError("kite 3 1;mix 1 2 3;mix 1 2 3;", -4, 25);
        Check.due("REPEATED", KitePainter.REPEATED, -4);
        Check.sentence("3", "TOO_MANY = -5: Error code of load: too many patterns or lines.");
        Check.dueError("kite 3 1;pattern 1;pattern 1;pattern 1;pattern 1;", -5, 39);
        Check.dueError("kite 3 1;pattern 1 1 1 1 1 1 1;", -5, 29);
        Check.due("TOO_MANY", KitePainter.TOO_MANY, -5);
    }
}
