/** The sentences of the promises 1 to 4 that name a boundary case: a test for each. */
final class TextSentencesTest {
    private static final int SPACES = 0x20202020;

    private TextSentencesTest() {
    }

    public static void main(String[] args) {
        newObject();
        fourBytesOfEachArgument();
        appendUpTo600Bytes();
        loadReadsTheFirstBytes();
        loadReplacesAllData();
        loadEmptiesTheBuffer();
        errorLeavesOtherData();
        emptyText();
        loadAnswersCells();
        loadAnswersTheFirstError();
        loadOfAWrongLength();
        errorOffset();
        Check.end("TextSentencesTest");
    }

    private static void newObject() {
        Check.sentence("1", "Creates an object with a bare kite, with an empty input buffer.");
        KitePainter kite = new KitePainter();
        Check.due("bare cells", kite.state(5), 25);
        Check.dueIllegal("load(1)", () -> kite.load(1));
        Check.due("append", kite.append(0, 0, 0, 0, 0), 20);
        Check.due("load(0)", new KitePainter().load(0), KitePainter.SYNTAX_ERROR);
        KitePainter used = new KitePainter();
        used.append(1, 2, 3, 4, 5);
        used.paint(0, 0, 1, 9, true);
        KitePainter other = new KitePainter();
        Check.due("bare cells of another object", other.state(5), 25);
        Check.dueIllegal("load(1) of another object", () -> other.load(1));
    }

    private static void fourBytesOfEachArgument() {
        Check.sentence("2", "Appends 20 bytes to the input buffer: the 4 bytes of each argument, the most significant byte"
                + " first.");
        int[] strays = {0x00, 0x40, 0x7f, 0x80, 0xff};
        for (int at = 0; at < 20; at++) {
            for (int stray : strays) {
                int[] words = {SPACES, SPACES, SPACES, SPACES, SPACES};
                int shift = 24 - 8 * (at % 4);
                words[at / 4] = SPACES & ~(0xff << shift) | stray << shift;
                KitePainter kite = new KitePainter();
                kite.append(words[0], words[1], words[2], words[3], words[4]);
                Check.due("a stray byte", kite.load(20), KitePainter.SYNTAX_ERROR);
                Check.due("its place", kite.errorOffset(), at);
            }
        }
        KitePainter kite = new KitePainter();
        kite.append(0x6b697465, 0x31312039, 0x3b636c6f, 0x74683939, 0x3b776f6f);
        kite.append(0x6430373b, SPACES, SPACES, SPACES, SPACES);
        Check.due("kite11 9;cloth99;wood07;", kite.load(24), 99);
        Check.due("cloth 99", kite.cell(0, 0, 3), 99);
    }

    private static void appendUpTo600Bytes() {
        Check.sentence("2", "Returns the new length of the buffer; -1 if it would exceed 600 bytes, and the buffer is"
                + " unchanged then.");
        KitePainter kite = new KitePainter();
        Check.append(kite, "kite 3 2;");
        for (int length = 40; length <= 600; length += 20) {
            Check.due("append", kite.append(SPACES, SPACES, SPACES, SPACES, SPACES), length);
        }
        for (int calls = 0; calls < 3; calls++) {
            Check.due("append to 600 bytes", kite.append(-1, -1, -1, -1, -1), -1);
        }
        Check.dueIllegal("load(601)", () -> kite.load(601));
        Check.dueIllegal("load(620)", () -> kite.load(620));
        Check.due("load(600)", kite.load(600), 6);
        Check.due("append to the emptied buffer", kite.append(SPACES, SPACES, SPACES, SPACES, SPACES), 20);
        Check.due("no change is made by append", kite.undo(), 0);
    }

    private static void loadReadsTheFirstBytes() {
        Check.sentence("3", "the number of bytes to read");
        String text = "kite 15 12;cloth 12;";
        int[] answers = {-2, -2, -2, -2, -2, -2, -2, -2, -2, -2, -2, 180};
        int[] offsets = {0, 0, 0, 0, 4, 5, 6, 7, 8, 9, 10, -1};
        for (int length = 0; length < answers.length; length++) {
            KitePainter kite = new KitePainter();
            Check.append(kite, text);
            Check.due("load(" + length + ")", kite.load(length), answers[length]);
            Check.due("errorOffset()", kite.errorOffset(), offsets[length]);
        }
        KitePainter kite = new KitePainter();
        Check.append(kite, text);
        Check.due("load(20)", kite.load(20), 180);
        Check.due("cloth 12", kite.cell(0, 0, 3), 12);
        Check.append(kite, text);
        Check.due("load(18) ends behind a digit", kite.load(18), KitePainter.SYNTAX_ERROR);
        Check.due("errorOffset()", kite.errorOffset(), 18);
    }

    private static void loadReplacesAllData() {
        Check.sentence("3", "Reads the first bytes of the input buffer as a setup text and replaces all data by it; the time"
                + " is 0, and all cells are bare.");
        String[] texts = {"kite 5 5;", "kite 1 1;", "kite 7 4;reach 0 1 2 3;cloth 7;wood 3;colour 2 9;mix 3 4 1;"
                + "spar across 0 2 7;pattern 1 2;"};
        for (String text : texts) {
            KitePainter kite = Traces.busyKite();
            kite.load(0);
            kite.stroke(3, 0, 1, 4, 6);
            Check.load(kite, text);
            KitePainter fresh = Check.kite(text);
            Check.dueSame("all data", Traces.now(kite), Traces.now(fresh));
            Check.due("the time", kite.state(2), 0);
            Check.due("cells that are not bare", kite.state(3) - kite.state(5), 0);
            for (int colour = 1; colour <= 6; colour++) {
                int middle = kite.state(0) / 2;
                kite.paint(middle, 0, colour, 1, false);
                fresh.paint(middle, 0, colour, 1, false);
                Check.due("the weight of a colour", kite.cell(middle, 0, 3), fresh.cell(middle, 0, 3));
            }
            kite.spar(kite.state(0) / 2, 0, true, 1);
            fresh.spar(fresh.state(0) / 2, 0, true, 1);
            Check.due("the weight of a spar", kite.state(10), fresh.state(10));
        }
    }

    private static void loadEmptiesTheBuffer() {
        Check.sentence("3", "The input buffer is empty afterwards, also if the text has an error.");
        String[] texts = {"kite 3 3;", "kite 3 x;", "kite 4 3;", "", "kite 3 3;mix 1 2 3;mix 1 2 3;"};
        for (String text : texts) {
            KitePainter kite = new KitePainter();
            Check.append(kite, "kite 3 3;           cloth 9;");
            kite.load(9);
            Check.append(kite, text + " ".repeat(40));
            kite.load(text.length());
            Check.dueIllegal("load(1) behind \"" + text + "\"", () -> kite.load(1));
            Check.due("append behind it", Check.append(kite, "kite 1 2;"), 20);
            Check.due("load of it", kite.load(20), 2);
        }
    }

    private static void errorLeavesOtherData() {
        Check.sentence("3", "An error leaves all other data unchanged.");
        String[] texts = {"", "x", "kite 2 2;", "kite 3 13;", "kite 9 9;reach 1 2 3 4 4 4 4 4 4;cloth 50;wood 60;colour 1 70;"
                + "mix 1 2 6;mix 3 4 1;spar down 0 0 9;pattern 6 5;pattern 4;pattern 3;", "kite 15 12;cloth 9"};
        String[] ends = {"", ";", "kite", "cloth 100;", "pattern 7", "mix 1 2 6;", "pattern 1 2 3 4 5 6 0;"};
        for (String text : texts) {
            for (String end : ends) {
                KitePainter kite = Traces.busyKite();
                kite.load(0);
                int answer = Check.load(kite, text + end);
                if (answer < 0) {
                    Check.dueSame("a load of \"" + text + end + "\"", tracesBehindAnError(kite),
                            tracesBehindAnError(Traces.busyKite()));
                }
            }
        }
    }

    /** The error offset is the same then, and the buffer is empty. */
    private static String tracesBehindAnError(KitePainter kite) {
        kite.load(0);
        return Traces.all(kite);
    }

    private static void emptyText() {
        Check.sentence("3", "An empty text has a SYNTAX_ERROR.");
        KitePainter kite = new KitePainter();
        Check.due("load(0) of an empty buffer", kite.load(0), KitePainter.SYNTAX_ERROR);
        Check.due("its offset", kite.errorOffset(), 0);
        Check.append(kite, "kite 3 3;");
        Check.due("load(0) of a buffer that is not empty", kite.load(0), KitePainter.SYNTAX_ERROR);
        Check.due("its offset", kite.errorOffset(), 0);
        Check.dueIllegal("the buffer is empty then", () -> kite.load(1));
        Check.due("no change", kite.undo(), -1);
    }

    private static void loadAnswersCells() {
        Check.sentence("3", "Returns the number of cells of the sail");
        Check.dueLoaded("kite 1 1;", 1);
        Check.dueLoaded("kite 15 12;", 180);
        Check.dueLoaded("kite 15 1;reach 0;", 1);
        Check.dueLoaded("kite 15 12;reach 7 6 5 4 3 2 1 0 7 7 7 7;", 64 + 60);
    }

    private static void loadAnswersTheFirstError() {
        Check.sentence("3", "or the error code of the first error.");
        Check.dueError("kite 3 1;cloth 100;x", KitePainter.OUT_OF_RANGE, 15);
        Check.dueError("kite 3 1;x;cloth 100;", KitePainter.SYNTAX_ERROR, 9);
        Check.dueError("kite 3 1;mix 1 2 3;mix 1 2 9", KitePainter.REPEATED, 25);
        Check.dueError("kite 3 1;pattern 1 1 1 1 1 1 1 9", KitePainter.TOO_MANY, 29);
    }

    private static void loadOfAWrongLength() {
        Check.sentence("3", "IllegalArgumentException if length is negative or greater than the length of the buffer; the"
                + " buffer is unchanged then");
        int[] wrong = {-1, 21, 600, 601, Integer.MIN_VALUE, Integer.MAX_VALUE};
        for (int length : wrong) {
            Traces.dueIllegal("load(" + length + ")", kite -> kite.load(length));
        }
        KitePainter kite = new KitePainter();
        Check.dueIllegal("load(1) of an empty buffer", () -> kite.load(1));
        Check.append(kite, "kite 9 2;" + " ".repeat(20));
        Check.dueIllegal("load(41) of 40 bytes", () -> kite.load(41));
        Check.dueIllegal("load(-1) of 40 bytes", () -> kite.load(-1));
        Check.due("load(40)", kite.load(40), 18);
    }

    private static void errorOffset() {
        Check.sentence("4", "Returns the offset of the error found by the latest call of load that did not throw; -1 if it"
                + " found none or if there was no such call.");
        KitePainter kite = new KitePainter();
        Check.due("no call", kite.errorOffset(), -1);
        Check.dueIllegal("a call that throws", () -> kite.load(1));
        Check.due("no such call", kite.errorOffset(), -1);
        kite.load(0);
        Check.due("the least offset", kite.errorOffset(), 0);
        Check.load(kite, " ".repeat(600));
        Check.due("the greatest offset", kite.errorOffset(), 600);
        Check.dueIllegal("a call that throws", () -> kite.load(-1));
        Check.due("the call ahead of it", kite.errorOffset(), 600);
        kite.paint(0, 0, 1, 1, true);
        kite.append(0, 0, 0, 0, 0);
        Check.due("other calls", kite.errorOffset(), 600);
        kite.load(0);
        Check.load(kite, "kite 3 3;");
        Check.due("a call without an error", kite.errorOffset(), -1);
        Check.dueIllegal("a call that throws", () -> kite.load(1));
        Check.due("the call ahead of it", kite.errorOffset(), -1);
    }
}
