/** Promises 1 to 4: the new object, append, load and errorOffset. */
final class TextTest {
    private TextTest() {
    }

    public static void main(String[] args) {
        newObject();
        append();
        appendBytes();
        loadAndItsBuffer();
        loadReplacesAll();
        statementsThatLoad();
        statementsInAnyPlace();
        syntaxErrors();
        rangeErrors();
        repeatedAndTooMany();
        whichErrorIsFirst();
        errorOffset();
        Check.end("TextTest");
    }

    private static void newObject() {
        KitePainter kite = new KitePainter();
        int[] state = {5, 5, 0, 25, 0, 25, 0, 10, 10, 0, 25, 0, 0};
        for (int what = 0; what < state.length; what++) {
            Check.due("1: state(" + what + ")", kite.state(what), state[what]);
        }
        for (int number = 0; number < 25; number++) {
            int x = number % 5;
            int y = number / 5;
            Check.due("1: colour of " + number, kite.cell(x, y, 0), 0);
            Check.due("1: wetness of " + number, kite.cell(x, y, 1), 0);
            Check.due("1: spar of " + number, kite.cell(x, y, 2), 0);
            Check.due("1: weight of " + number, kite.cell(x, y, 3), 1);
        }
        for (int a = 1; a <= 6; a++) {
            for (int b = 1; b <= 6; b++) {
                Check.due("1: mix(" + a + ", " + b + ")", kite.mix(a, b), Math.max(a, b));
            }
        }
        Check.due("1: errorOffset()", kite.errorOffset(), -1);
        Check.due("1: undo()", kite.undo(), -1);
        Check.dueIllegal("1: load(1) of an empty buffer", () -> kite.load(1));
        Check.dueOutside("1: pattern(0, 0)", () -> kite.pattern(0, 0));
        Check.due("1: paint of the colour weight 2", kite.paint(4, 0, 6, 1, false), 2);
        Check.due("1: spar", kite.spar(4, 0, false, 1), 1);
        Check.due("1: weight of colour and wood", kite.cell(4, 0, 3), 8);
    }

    private static void append() {
        KitePainter kite = new KitePainter();
        for (int calls = 1; calls <= 30; calls++) {
            int answer = calls == 1 ? Check.append(kite, "kite 7 2;") : Check.append(kite, " ");
            Check.due("2: append " + calls, answer, 20 * calls);
        }
        Check.due("2: append 31", kite.append(-1, -1, -1, -1, -1), -1);
        Check.dueIllegal("2: load(601)", () -> kite.load(601));
        Check.due("2: load(600)", kite.load(600), 14);
        Check.due("2: append after load", kite.append(0, 0, 0, 0, 0), 20);
        Check.due("2: and again", kite.append(0, 0, 0, 0, 0), 40);
        Check.due("2: no change", kite.undo(), 0);
    }

    /** Each of the 20 places takes its byte, and no byte from 128 on is mistaken for another one. */
    private static void appendBytes() {
        String text = "kite 1 1 ;spar down ";
        for (int at = 0; at < 20; at++) {
            char[] signs = text.toCharArray();
            signs[at] = (char) 187;
            KitePainter kite = new KitePainter();
            Check.append(kite, new String(signs));
            Check.due("2: a stray byte at " + at, kite.load(20), KitePainter.SYNTAX_ERROR);
            int cutWord = at < 4 ? 0 : at >= 10 && at < 14 ? 10 : at >= 15 && at < 19 ? 15 : at;
            Check.due("2: its offset", kite.errorOffset(), cutWord);
        }
        KitePainter kite = new KitePainter();
        kite.append(0x6b697465, 0x20392031, 0x323b2020, 0x20202020, 0x20202020);
        Check.due("2: bytes by rising offset", kite.load(20), 108);
        kite.append(0x80000000, 0xffffffff, 0x7fffffff, 0, 1);
        Check.due("2: byte 128", kite.load(20), KitePainter.SYNTAX_ERROR);
    }

    private static void loadAndItsBuffer() {
        KitePainter kite = new KitePainter();
        Check.due("3: load(0)", kite.load(0), KitePainter.SYNTAX_ERROR);
        Check.append(kite, "kite 3 4;");
        Check.dueIllegal("3: load(-1)", () -> kite.load(-1));
        Check.dueIllegal("3: load(MIN)", () -> kite.load(Integer.MIN_VALUE));
        Check.dueIllegal("3: load(21)", () -> kite.load(21));
        Check.dueIllegal("3: load(MAX)", () -> kite.load(Integer.MAX_VALUE));
        Check.due("3: load(9) of the buffer that is unchanged", kite.load(9), 12);
        Check.dueIllegal("3: load(1) of the buffer that is empty", () -> kite.load(1));
        Check.append(kite, "kite 3 4;stop");
        Check.due("3: the first bytes alone", kite.load(9), 12);
        Check.append(kite, "stop");
        Check.due("3: an error", kite.load(4), KitePainter.SYNTAX_ERROR);
        Check.dueIllegal("3: the buffer is empty after an error", () -> kite.load(1));
        Check.due("3: append after an error", Check.append(kite, "kite 1 1;"), 20);
        Check.due("3: the end of the length ends a number", kite.load(7), KitePainter.SYNTAX_ERROR);
        Check.due("3: at the length", kite.errorOffset(), 7);
    }

    private static void loadReplacesAll() {
        KitePainter kite = Check.kite("kite 5 3;reach 1 2 0;cloth 3;wood 7;colour 1 10;mix 1 2 5;spar down 2 0 3;pattern 10 22;");
        kite.paint(2, 0, 1, 9, true);
        kite.pass(3);
        kite.foretold(2, 0);
        long before = kite.checksum();
        int[] failing = {kite.load(0), Check.load(kite, "kite 7 7;cloth 9;mix 1 2 3;pattern 1;spar down 0 0 9;reach"),
            Check.load(kite, "kite 9 9;colour 1 100;")};
        Check.due("3: a failing load", failing[0], KitePainter.SYNTAX_ERROR);
        Check.due("3: a failing load", failing[1], KitePainter.SYNTAX_ERROR);
        Check.due("3: a failing load", failing[2], KitePainter.OUT_OF_RANGE);
        Check.due("3: changes nothing", kite.checksum(), before);
        Check.due("3: changes no mix", kite.mix(2, 1), 5);
        Check.due("3: changes no pattern", kite.pattern(0, 2), 3);
        kite.stamp(0, 2, 0, true);
        kite.foretold(1, 0);
        Check.due("3: load", Check.load(kite, "kite 5 3;"), 15);
        int[] state = {5, 3, 0, 15, 0, 15, 0, 6, 6, 0, 15, 0, 0};
        for (int what = 0; what < state.length; what++) {
            Check.due("3: state(" + what + ") after load", kite.state(what), state[what]);
        }
        Check.due("3: no mix is told", kite.mix(1, 2), 2);
        kite.paint(0, 0, 1, 1, false);
        Check.due("3: the weight of a colour", kite.cell(0, 0, 3), 3);
        kite.spar(0, 0, true, 1);
        Check.due("3: the weight of wood", kite.cell(0, 0, 3), 8);
        Check.due("3: load is a change", kite.undo(), 6);
    }

    private static void statementsThatLoad() {
        KitePainter kite = Check.kite("kite15 12;reach 7 6 5 4 3 2 1 0 7 7 7 7;");
        Check.due("3: the greatest kite", kite.state(3), 15 + 13 + 11 + 9 + 7 + 5 + 3 + 1 + 4 * 15);
        Check.due("3: height", kite.state(1), 12);
        Check.due("3: x 1 of row 1", kite.cell(1, 1, 0), 0);
        Check.dueOutside("3: x 0 of row 1", () -> kite.cell(0, 1, 0));
        Check.dueOutside("3: x 8 of row 7", () -> kite.cell(8, 7, 0));
        Check.due("3: the smallest kite", Check.load(kite, "kite 1 1;"), 1);
        Check.due("3: reach 0", Check.load(kite, "kite 1 2;reach 0 0;"), 2);
        Check.due("3: leading zeros", Check.load(kite, "kite 0000000000000000000003 0000000000000000000000000000002;"), 6);
        Check.due("3: spaces", Check.load(kite, "   kite   3   2   ;   cloth   99   ;   wood   0   ;   "), 6);
        Check.due("3: cloth", kite.state(10), 6 * 99);
        Check.due("3: no spaces", Check.load(kite, "kite3 2;cloth0;wood99;colour1 0;colour6 99;colour6 98;mix1 2 3;spar down1 0 1;pattern1;"), 6);
        Check.due("3: cloth 0, wood 99", kite.state(10), 99);
        kite.paint(0, 0, 6, 1, false);
        kite.paint(0, 1, 1, 1, false);
        Check.due("3: the last weight of a colour counts", kite.cell(0, 0, 3), 98);
        Check.due("3: weight 0", kite.cell(0, 1, 3), 0);
        Check.due("3: a statement twice", Check.load(kite, "kite 3 2;mix 1 2 3;mix 1 3 1;mix 6 5 1;spar down 0 0 1;spar across 0 0 15;"), 6);
        Check.due("3: mix", kite.mix(2, 1), 3);
        Check.due("3: mix", kite.mix(5, 6), 1);
        Check.due("3: spars that overlap", kite.state(4), 3);
        Check.due("3: patterns", Check.load(kite, "kite 3 2;pattern 0123456 6543210 0000000 1111111 2222222 3333333;pattern 0;pattern 6 6;"), 6);
        Check.due("3: three of them", kite.state(11), 3);
    }

    private static void statementsInAnyPlace() {
        KitePainter kite = Check.kite("kite 5 3;pattern 1;mix 1 2 3;cloth 2;colour 1 1;wood 3;reach 0 1 2;spar down 0 0 3;");
        Check.due("3: spars on the sail alone", kite.state(4), 1);
        Check.due("3: the lowest one", kite.cell(0, 2, 2), 1);
        Check.due("3: a spar goes on behind cells that are none", Check.load(kite, "kite 3 3;reach 1 0 1;spar down 0 0 3;"), 7);
        Check.due("3: two spars", kite.state(4), 2);
        Check.due("3: a spar across", Check.load(kite, "kite 5 2;reach 1 2;spar across 0 0 4;"), 8);
        Check.due("3: x 1 to 3", kite.state(4), 3);
        Check.due("3: x 1", kite.cell(1, 0, 2), 1);
        Check.due("3: x 3", kite.cell(3, 0, 2), 1);
        Check.due("3: a spar over the edges", Check.load(kite, "kite 3 2;spar across 2 1 15;spar down 0 1 15;"), 6);
        Check.due("3: stays on the sail", kite.state(4), 2);
        Check.due("3: a spar of length 1", Check.load(kite, "kite 3 2;spar down 0 0 1;spar across 1 1 1;"), 6);
        Check.due("3: lies on one cell", kite.state(4), 2);
        Check.due("3: at 0", kite.cell(0, 0, 2), 1);
        Check.due("3: at 4", kite.cell(1, 1, 2), 1);
    }

    private static void syntaxErrors() {
        Check.dueSyntax("", 0);
        Check.dueSyntax("    ", 4);
        Check.dueSyntax(";", 0);
        Check.dueSyntax("5", 0);
        Check.dueSyntax("  kit 5 5;", 2);
        Check.dueSyntax("kites 5 5;", 0);
        Check.dueSyntax("kitez 5 5;", 0);
        Check.dueSyntax("akite 5 5;", 0);
        Check.dueSyntax("bite 5 5;", 0);
        Check.dueSyntax("Kite 5 5;", 0);
        Check.dueSyntax("kitE 5 5;", 0);
        Check.dueSyntax("kite", 4);
        Check.dueSyntax("kite   ", 7);
        Check.dueSyntax("kite;", 4);
        Check.dueSyntax("kite -5 5;", 5);
        Check.dueSyntax("kite\t5 5;", 4);
        Check.dueSyntax("kite 5;", 6);
        Check.dueSyntax("kite 5 5", 8);
        Check.dueSyntax("kite 5 5 5;", 9);
        Check.dueSyntax("kite 5 5 kite", 9);
        Check.dueSyntax("kite 5 5;;", 9);
        Check.dueSyntax("kite 5 5; 7", 10);
        Check.dueSyntax("kite 5 5;kite 5 5;", 9);
        Check.dueSyntax("kite 5 5;reac 1;", 9);
        Check.dueSyntax("kite 5 5;reachs 1;", 9);
        Check.dueSyntax("kite 5 1;teach 1;", 9);
        Check.dueSyntax("kite 5 1;clotz 1;", 9);
        Check.dueSyntax("kite 5 1;good 1;", 9);
        Check.dueSyntax("kite 5 1;color 1 1;", 9);
        Check.dueSyntax("kite 5 1;max 1 2 3;", 9);
        Check.dueSyntax("kite 5 1;spat down 0 0 1;", 9);
        Check.dueSyntax("kite 5 1;spar town 0 0 1;", 14);
        Check.dueSyntax("kite 5 1;spar acrost 0 0 1;", 14);
        Check.dueSyntax("kite 5 1;pattera 1;", 9);
        Check.dueSyntax("kite 5 5;cloth", 14);
        Check.dueSyntax("kite 5 5;cloth;", 14);
        Check.dueSyntax("kite 5 5;cloth 1", 16);
        Check.dueSyntax("kite 5 5;cloth 1 1;", 17);
        Check.dueSyntax("kite 5 5;cloth 1;cloth 1;", 17);
        Check.dueSyntax("kite 5 5;cloth 1;wood 1;cloth x", 24);
        Check.dueSyntax("kite 5 5;wood 1;wood 1;", 16);
        Check.dueSyntax("kite 5 5;wood;", 13);
        Check.dueSyntax("kite 5 2;reach;", 14);
        Check.dueSyntax("kite 5 2;reach 1;", 16);
        Check.dueSyntax("kite 5 2;reach 1", 16);
        Check.dueSyntax("kite 5 2;reach 1 1 1;", 19);
        Check.dueSyntax("kite 5 2;reach 1 1 9;", 19);
        Check.dueSyntax("kite 5 2;reach 1 1;reach 1 1;", 19);
        Check.dueSyntax("kite 5 2;spar down 0 0 1;reach 1 1;", 25);
        Check.dueSyntax("kite 5 2;spar down 0 0 1; reach 1 1;", 26);
        Check.dueSyntax("kite 5 2;colour;", 15);
        Check.dueSyntax("kite 5 2;colour 1;", 17);
        Check.dueSyntax("kite 5 2;colour 1 2 3;", 20);
        Check.dueSyntax("kite 5 2;mix 1 2;", 16);
        Check.dueSyntax("kite 5 2;mix 1 2 3 4;", 19);
        Check.dueSyntax("kite 5 2;mix x 2 3;", 13);
        Check.dueSyntax("kite 5 2;spar up 0 0 1;", 14);
        Check.dueSyntax("kite 5 2;spar 0 0 1;", 14);
        Check.dueSyntax("kite 5 2;spardown 0 0 1;", 9);
        Check.dueSyntax("kite 5 2;spar downacross 0 0 1;", 14);
        Check.dueSyntax("kite 5 2;spar down across 0 0 1;", 19);
        Check.dueSyntax("kite 5 2;spar down 0 0;", 22);
        Check.dueSyntax("kite 5 2;spar across 0 0 1 1;", 27);
        Check.dueSyntax("kite 5 2;pattern;", 16);
        Check.dueSyntax("kite 5 2;pattern", 16);
        Check.dueSyntax("kite 5 2;pattern x;", 17);
        Check.dueSyntax("kite 5 2;pattern 1 x;", 19);
        Check.dueSyntax("kite 5 2;pattern 1", 18);
        Check.dueSyntax("kite 5 2;pattern 1,2;", 18);
        Check.dueSyntax("kite 5 2 ;\n", 10);
        Check.dueSyntax("kite 5 2;@", 9);
        Check.dueSyntax("kite 5 2;`", 9);
        Check.dueSyntax("kite 5 2;{", 9);
        Check.dueSyntax("kite 5 2/", 8);
        Check.dueSyntax("kite 5 2:", 8);
        Check.dueSyntax("kite 5 2;" + (char) 0, 9);
        Check.dueSyntax("kite 5 2;" + (char) 160, 9);
        Check.dueSyntax("kite 5 2;cloth 1" + (char) 178 + ";", 16);
        Check.dueSyntax("kite 5 2;clot" + (char) 232 + " 1;", 9);
    }

    private static void rangeErrors() {
        Check.dueRange("kite 0 5;", 5);
        Check.dueRange("kite 2 5;", 5);
        Check.dueRange("kite  14 5;", 6);
        Check.dueRange("kite 16 5;", 5);
        Check.dueRange("kite 17 5;", 5);
        Check.dueRange("kite 0099999999999999999999999 5;", 5);
        Check.dueRange("kite 4294967301 5;", 5);
        Check.dueRange("kite 18446744073709551621 5;", 5);
        Check.dueRange("kite 5 0;", 7);
        Check.dueRange("kite 5 13;", 7);
        Check.dueRange("kite 5 2;reach 3 1;", 15);
        Check.dueRange("kite 5 2;reach 2 3;", 17);
        Check.dueRange("kite 15 2;reach 7 8;", 18);
        Check.dueRange("kite 5 2;cloth 100;", 15);
        Check.dueRange("kite 5 2;wood 100;", 14);
        Check.dueRange("kite 5 2;colour 0 1;", 16);
        Check.dueRange("kite 5 2;colour 7 1;", 16);
        Check.dueRange("kite 5 2;colour 1 100;", 18);
        Check.dueRange("kite 5 2;mix 0 1 1;", 13);
        Check.dueRange("kite 5 2;mix 7 1 1;", 13);
        Check.dueRange("kite 5 2;mix 1 0 1;", 15);
        Check.dueRange("kite 5 2;mix 1 7 1;", 15);
        Check.dueRange("kite 5 2;mix 1 1 1;", 15);
        Check.dueRange("kite 5 2;mix 6 006 1;", 15);
        Check.dueRange("kite 5 2;mix 1 2 0;", 17);
        Check.dueRange("kite 5 2;mix 1 2 7;", 17);
        Check.dueRange("kite 5 2;spar down 5 0 1;", 19);
        Check.dueRange("kite 5 2;spar down 4 2 1;", 21);
        Check.dueRange("kite 5 2;spar across 4 1 0;", 25);
        Check.dueRange("kite 5 2;spar across 4 1 16;", 25);
        Check.dueRange("kite 5 2;pattern 12345670;", 17);
        Check.dueRange("kite 5 2;pattern 00000000;", 17);
        Check.dueRange("kite 5 2;pattern 7;", 17);
        Check.dueRange("kite 5 2;pattern 8;", 17);
        Check.dueRange("kite 5 2;pattern 0678;", 19);
        Check.dueRange("kite 5 2;pattern 06 6;", 20);
        Check.dueRange("kite 5 2;pattern 6 66;", 19);
        Check.dueRange("kite 5 2;pattern 66 67;", 21);
        Check.dueRange("kite 5 2;pattern 66 676;", 20);
        Check.dueRange("kite 5 2;pattern 1;pattern 11 1;", 30);
    }

    private static void repeatedAndTooMany() {
        Check.dueError("kite 5 2;mix 1 2 3;mix 1 2 3;", KitePainter.REPEATED, 25);
        Check.dueError("kite 5 2;mix 1 2 3;mix  2   1 3;", KitePainter.REPEATED, 28);
        Check.dueError("kite 5 2;mix 1 2 3;mix 3 1 2;mix 3 2 1;mix 1 3 x", KitePainter.REPEATED, 45);
        Check.dueError("kite 5 2;pattern 1 1 1 1 1 1 1;", KitePainter.TOO_MANY, 29);
        Check.dueError("kite 5 2;pattern 12 12 12 12 12 12  18 8;", KitePainter.TOO_MANY, 36);
        Check.dueError("kite 5 2;pattern 1;pattern 2;pattern 3;pattern 4;", KitePainter.TOO_MANY, 39);
        Check.dueError("kite 5 2;pattern 1;pattern 2;pattern 3; pattern", KitePainter.TOO_MANY, 40);
    }

    /** At one offset the kinds are told in their order; otherwise the smaller offset counts. */
    private static void whichErrorIsFirst() {
        Check.dueRange("kite 5 2;pattern 1 1 1 1 1 1 7;", 29);
        Check.dueRange("kite 5 2;pattern 1 1 1 1 1 1 11;", 29);
        Check.dueRange("kite 5 2;pattern 71111111;", 17);
        Check.dueRange("kite 5 2;pattern 11 117;", 20);
        Check.dueRange("kite 4 x;", 5);
        Check.dueSyntax("kite x 99;", 5);
        Check.dueRange("kite 5 2;mix 1 2 3;mix 7 2 3;", 23);
        Check.dueRange("kite 5 2;cloth 100", 15);
        Check.dueSyntax("kite 5 2;cloth 1;cloth 100;", 17);
        Check.dueRange("kite 5 2;reach 3;", 15);
        Check.dueSyntax("kite 5 2;patterns 7;", 9);
        Check.dueRange("kite 5 2;spar down 9 9 99;", 19);
    }

    private static void errorOffset() {
        KitePainter kite = new KitePainter();
        Check.load(kite, "kite 5 x;");
        Check.due("4: after an error", kite.errorOffset(), 7);
        Check.append(kite, "kite 3 3;");
        Check.due("4: append leaves it", kite.errorOffset(), 7);
        Check.dueIllegal("4: load that throws", () -> kite.load(99));
        Check.due("4: leaves it", kite.errorOffset(), 7);
        kite.load(9);
        Check.due("4: after a success", kite.errorOffset(), -1);
        kite.load(0);
        Check.due("4: at the start", kite.errorOffset(), 0);
        kite.undo();
        Check.due("4: undo leaves it", kite.errorOffset(), 0);
        Check.due("4: and what undo gave back is the first kite", kite.state(0), 5);
    }
}
