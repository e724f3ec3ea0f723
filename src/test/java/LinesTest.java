/** The document's sentences on LINES and FAULTS, and read() and fault(), promises 5 and 6: a test for each. */
public final class LinesTest {
    private static final Check CHECK = new Check("LinesTest");
    private static final String[] ALL_BUT_BLANKS = {"x", "-", "0", "1", "12"};

    public static void main(String[] args) {
        tape();
        anyNumberOfLines();
        line();
        literal();
        blanks();
        equations();
        clauses();
        firstFromTheLeft();
        bytesThatCannotStand();
        everyByte();
        endWithinLine();
        numbersAboveN();
        tooMany();
        byCode();
        CHECK.saysNoMore(Document.LINES);
        readIsEmptyThen();
        readComesBehind();
        readTellsHowMany();
        readTellsThePlace();
        fault();
        CHECK.saysNoMore("Promise 5");
        CHECK.saysNoMore("Promise 6");
        CHECK.end();
    }

    private static void terms(String words) {
        CHECK.says(Document.LINES, words);
    }

    /** A new object of 12 variables reads the text. */
    private static ParityClauses reads(String text, int answer, int fault) {
        ParityClauses x = new ParityClauses(12);
        CHECK.reads(x, text, answer, fault);
        return x;
    }

    private static void wrongAt(int place, String text) {
        reads(text, -1 - place, 1);
    }

    private static void equationIs(String text, long set, long right) {
        ParityClauses x = reads(text, 1, 0);
        CHECK.answers(x, set, "told", 0, 0);
        CHECK.answers(x, right, "told", 0, 1);
        CHECK.answers(x, 0, "count", 2);
    }

    private static void clauseIs(String text, long yes, long no) {
        ParityClauses x = reads(text, 1, 0);
        CHECK.answers(x, yes, "told", 0, 2);
        CHECK.answers(x, no, "told", 0, 3);
        CHECK.answers(x, 0, "count", 1);
    }

    private static void tape() {
        terms("LINES. THE TAPE has at most 500 bytes.");
        reads(" ".repeat(499) + "0", 1, 0);
        reads("x " + "1 ".repeat(248) + "0\n", 1, 0);
        ParityClauses x = new ParityClauses(12);
        Check.feed(x, "1 -2 3 0\n".repeat(55) + "    0");
        CHECK.answers(x, 500, "count", 4);
        CHECK.refuses(x, Check.STATE, "feed", 32L, 1);
        CHECK.answers(x, 56, "read");
        CHECK.answers(x, 56, "count", 2);
    }

    private static void anyNumberOfLines() {
        terms("A text is LINES, any number of them;");
        reads("", 0, 0);
        reads("0", 1, 0);
        reads("1 0 2 0", 2, 0);
        reads("0 ".repeat(60), 60, 0);
        reads("x 0 ".repeat(60) + "0 ".repeat(60), 120, 0);
        reads("1 -1 0\n".repeat(71), 71, 0);
    }

    private static void line() {
        terms("LINE: [ x ] { LITERAL } 0;");
        clauseIs("0", 0, 0);
        clauseIs("3 0", 4, 0);
        clauseIs("3 -4 12 1 0", 1 | 4 | 1 << 11, 8);
        equationIs("x 0", 0, 1);
        equationIs("x 3 0", 4, 1);
        equationIs("x 3 4 12 0", 4 | 8 | 1 << 11, 1);
        wrongAt(2, "x x 0");
        wrongAt(2, "1 x 0");
        wrongAt(2, "1 x");
        wrongAt(0, "X 1 0");
    }

    private static void literal() {
        terms("LITERAL: [ - ] NUMBER, 1 .. n, figures without a 0 before.");
        clauseIs("1 0", 1, 0);
        clauseIs("-1 0", 0, 1);
        clauseIs("9 10 0", 3 << 8, 0);
        clauseIs("12 0", 1 << 11, 0);
        clauseIs("-12 0", 0, 1 << 11);
        wrongAt(1, "-0");
        wrongAt(1, "-0 0");
        wrongAt(1, "01 0");
        wrongAt(3, "1 02 0");
        wrongAt(1, "-01 0");
        wrongAt(3, "x 01 0");
        wrongAt(1, "00");
        wrongAt(1, "--1 0");
        wrongAt(0, "+1 0");
        for (int n : new int[] {1, 2, 9, 10, 39, 40}) {
            ParityClauses x = new ParityClauses(n);
            CHECK.reads(x, n + " 0 -" + n + " 0 x " + n + " 0", 3, 0);
            CHECK.answers(x, 1L << (n - 1), "told", 0, 2);
            CHECK.answers(x, 1L << (n - 1), "told", 1, 3);
            CHECK.answers(x, 1L << (n - 1), "told", 0, 0);
            CHECK.reads(x, n + 1 + " 0", -1, 2);
        }
    }

    private static void blanks() {
        terms("Blanks (32) and line ends (10) stand between all of these, as many as will,");
        clauseIs("1 -2 0", 1, 2);
        clauseIs("1\n-2\n0", 1, 2);
        clauseIs("1 \n  \n\n -2   \n 0", 1, 2);
        equationIs("x\n1\n0", 1, 1);
        equationIs("x  \n 1 0", 1, 1);
        reads("1 0\n\n \n2 0", 2, 0);
        wrongAt(1, "1\t0");
        wrongAt(1, "1\r\n0");
        terms("at least one behind a NUMBER, 0 or x;");
        wrongAt(1, "1-2 0");
        wrongAt(1, "1x 0");
        wrongAt(1, "0x 0");
        wrongAt(1, "0-1 0");
        wrongAt(1, "02 0");
        wrongAt(1, "x1 0");
        wrongAt(1, "x-1 0");
        wrongAt(1, "x0");
        wrongAt(1, "xx 0");
        // a figure behind a number is a figure of it
        clauseIs("10 0", 1 << 9, 0);
        terms("none behind a - ;");
        wrongAt(1, "- 1 0");
        wrongAt(1, "-\n1 0");
        wrongAt(3, "1 - 0");
        terms("at the beginning and the end there may be some.");
        reads("1 0", 1, 0);
        reads(" 1 0", 1, 0);
        reads("\n1 0", 1, 0);
        reads("1 0 ", 1, 0);
        reads("1 0\n", 1, 0);
        reads(" \n\n  1 0\n \n", 1, 0);
        reads(" ", 0, 0);
        reads("\n", 0, 0);
        reads(" \n".repeat(250), 0, 0);
    }

    private static void equations() {
        terms("With x it is an EQUATION: each LITERAL puts its variable into the SET, or takes it out, if it is there;");
        equationIs("x 1 2 0", 3, 1);
        equationIs("x 1 1 0", 0, 1);
        equationIs("x 1 1 1 0", 1, 1);
        equationIs("x 5 2 5 12 0", 2 | 1 << 11, 1);
        equationIs("x 5 -5 0", 0, 0);
        equationIs("x -5 5 -5 0", 16, 1);
        terms("the RIGHT side is 1, and changes with each - ;");
        equationIs("x 0", 0, 1);
        equationIs("x 1 0", 1, 1);
        equationIs("x -1 0", 1, 0);
        equationIs("x -1 -2 0", 3, 1);
        equationIs("x -1 2 -3 -4 0", 15, 0);
        equationIs("x -1 -1 0", 0, 1);
        equationIs("x 1 -1 0", 0, 0);
        // the line before does not count
        ParityClauses x = reads("x -1 0 x 2 0 -3 0 x 0 4 0", 5, 0);
        CHECK.answers(x, 0, "told", 0, 1);
        CHECK.answers(x, 2, "told", 1, 0);
        CHECK.answers(x, 1, "told", 1, 1);
        CHECK.answers(x, 0, "told", 2, 0);
        CHECK.answers(x, 1, "told", 2, 1);
        CHECK.answers(x, 8, "told", 1, 2);
        CHECK.answers(x, 0, "told", 1, 3);
    }

    private static void clauses() {
        terms("else it is a CLAUSE of its LITERALS;");
        clauseIs("0", 0, 0);
        clauseIs("1 -2 3 0", 5, 2);
        clauseIs("-2 -2 0", 0, 2);
        clauseIs("7 7 7 0", 64, 0);
        terms("one that has a variable and its - is left out (it counts as a LINE).");
        for (String text : new String[] {"4 -4 0", "-4 4 0", "4 2 -4 0", "1 -2 -1 2 0", "12 -12 12 0", "-12 12 -12 0"}) {
            ParityClauses x = reads(text, 1, 0);
            CHECK.answers(x, 0, "count", 2);
            CHECK.answers(x, 0, "count", 1);
        }
        ParityClauses x = reads("1 0 4 -4 0 -2 0", 3, 0);
        CHECK.answers(x, 2, "count", 2);
        CHECK.answers(x, 2, "told", 1, 3);
        // an equation with both is not left out
        CHECK.answers(reads("x 4 -4 0", 1, 0), 1, "count", 1);
    }

    private static void firstFromTheLeft() {
        terms("FAULTS, the first from the left:");
        reads("1a 13 0", -2, 1);
        reads("13 a", -1, 2);
        reads("1 13 a", -3, 2);
        reads("13a", -1, 2);
        reads("1 0 13", -5, 2);
        reads("a b", -1, 1);
        reads("13 14 0", -1, 2);
        CHECK.reads(Check.filled(12, 0, 60), "1 0 13 0", -3, 3);
        CHECK.reads(Check.filled(12, 0, 60), "1 13 0", -3, 2);
        CHECK.reads(Check.filled(12, 0, 60), "1 0 a", -3, 3);
        CHECK.reads(Check.filled(12, 0, 60), "1 a 0", -3, 1);
        CHECK.reads(Check.filled(12, 0, 60), "01", -1, 3);
        CHECK.reads(Check.filled(12, 60, 60), "x 1 0 1 0", -5, 3);
        CHECK.reads(Check.filled(12, 60, 60), "1 0 x 1 0", -3, 3);
    }

    private static void bytesThatCannotStand() {
        terms("1 a byte that can't stand there,");
        wrongAt(0, "a");
        wrongAt(0, "\u0000");
        wrongAt(0, "\u0080");
        wrongAt(0, "\u00ff");
        wrongAt(0, "\t1 0");
        wrongAt(2, "1 y 0");
        wrongAt(3, "1 0\u00a0");
        wrongAt(4, "1 0 ,");
        wrongAt(7, "1 0 1 010");
        wrongAt(499, " ".repeat(499) + "a");
        // bytes of a number below 0, and those that stand above what is asked for
        ParityClauses x = new ParityClauses(12);
        x.feed(0xFFFFFFFFFFFFFF20L, 8);
        CHECK.answers(x, -1, "read");
        x.feed(0x8130L, 2);
        CHECK.answers(x, -1, "read");
        x.feed(0x30FFL, 2);
        CHECK.answers(x, -2, "read");
        x.feed(0xFF30L, 1);
        CHECK.answers(x, 1, "read");
    }

    /** Every byte behind every kind of word: where it can stand, and the text then ends, its place is behind it. */
    private static void everyByte() {
        for (int b = 0; b < 256; b++) {
            char c = (char) b;
            boolean blank = b == 32 || b == 10;
            boolean figure = b >= '1' && b <= '9';
            boolean literal = figure || c == '-';
            ends("", c, literal || c == 'x', blank || c == '0');
            ends("x", c, blank, false);
            ends("-", c, figure, false);
            ends("0", c, false, blank);
            ends("0 ", c, literal || c == 'x', blank || c == '0');
            ends("x ", c, literal || blank, c == '0');
            ends("1 ", c, literal || blank, c == '0');
            ends("x 1 ", c, literal || blank, c == '0');
            ends("1", c, figure || blank || c == '0', false);
        }
    }

    /** The byte goes on within a line, or ends one (or stands between lines), or can't stand. */
    private static void ends(String before, char c, boolean within, boolean between) {
        ParityClauses x = new ParityClauses(40);
        int length = before.length();
        int lines = (before.startsWith("0") ? 1 : 0) + (c == '0' ? 1 : 0);
        CHECK.reads(x, before + c, between ? lines : within ? -2 - length : -1 - length, between ? 0 : 1);
    }

    private static void endWithinLine() {
        terms("the end within a LINE (the length);");
        for (String text : new String[] {"1", "1 ", "12", "x", "x ", "x\n", "-", "1 -", "-1", "-1 ", "x 1", "x 1 ", "1 0 2", "1 0 x", "0 -",
            "1\n\n\n", "1 -1"}) {
            wrongAt(text.length(), text);
        }
        wrongAt(500, " ".repeat(499) + "1");
        wrongAt(500, "x " + "1 ".repeat(249));
        for (String word : ALL_BUT_BLANKS) {
            if (!word.equals("0")) {
                wrongAt(492 + word.length(), "0" + " ".repeat(491) + word);
            }
        }
    }

    private static void numbersAboveN() {
        terms("2 a NUMBER above n (at its first byte);");
        reads("12 0", 1, 0);
        reads("13 0", -1, 2);
        reads("20 0", -1, 2);
        reads("99 0", -1, 2);
        reads("100 0", -1, 2);
        reads("120 0", -1, 2);
        reads("-13 0", -2, 2);
        reads(" -13 0", -3, 2);
        reads("x 1 -2 13 0", -8, 2);
        reads("1 0\n7 13 0", -7, 2);
        // neither the figures nor their value wrap around
        reads("1 99999999999999999999 0", -3, 2);
        reads("4294967297 0", -1, 2);
        reads("4294967296 0", -1, 2);
        reads("2147483648 0", -1, 2);
        reads("18446744073709551617 0", -1, 2);
        reads("65 0", -1, 2);
        reads("257 0", -1, 2);
        reads("1".repeat(500), -1, 2);
        reads("1 " + "0".repeat(3), -4, 1);
        ParityClauses one = new ParityClauses(1);
        CHECK.reads(one, "1 0", 1, 0);
        CHECK.reads(one, "2 0", -1, 2);
        CHECK.reads(one, "10 0", -1, 2);
        CHECK.reads(one, "x -2 0", -4, 2);
        ParityClauses most = new ParityClauses(40);
        CHECK.reads(most, "40 0", 1, 0);
        CHECK.reads(most, "41 0", -1, 2);
        CHECK.reads(most, "400 0", -1, 2);
    }

    private static void tooMany() {
        terms("3 a 61st EQUATION or CLAUSE would come (at the 0 of its LINE).");
        CHECK.reads(Check.filled(12, 0, 59), "1 0", 1, 0);
        CHECK.reads(Check.filled(12, 0, 60), "1 0", -3, 3);
        CHECK.reads(Check.filled(12, 0, 60), "0", -1, 3);
        CHECK.reads(Check.filled(12, 0, 59), "1 0 -1 2 0", -10, 3);
        CHECK.reads(Check.filled(12, 59, 0), "x 1 0", 1, 0);
        CHECK.reads(Check.filled(12, 60, 0), "x 1 0", -5, 3);
        CHECK.reads(Check.filled(12, 60, 0), "x 0", -3, 3);
        CHECK.reads(Check.filled(12, 59, 0), "x 1 0 x -12 0", -13, 3);
        // each has its own 60
        CHECK.reads(Check.filled(12, 60, 0), "1 0", 1, 0);
        CHECK.reads(Check.filled(12, 0, 60), "x 1 0", 1, 0);
        CHECK.reads(Check.filled(12, 59, 59), "1 0 x 1 0", 2, 0);
        reads("0 ".repeat(61), -121, 3);
        reads("x 0 ".repeat(61), -243, 3);
        reads("0 ".repeat(250), -121, 3);
        reads("x 0 ".repeat(125), -243, 3);
        // one that is left out does not come
        CHECK.reads(Check.filled(12, 60, 60), "1 -1 0", 1, 0);
        CHECK.reads(Check.filled(12, 0, 59), "1 -1 0 1 0 1 -1 0", 3, 0);
        CHECK.reads(Check.filled(12, 60, 60), "1 -1 0 1 0", -10, 3);
        // levels make no difference, what they took back does
        ParityClauses x = Check.filled(12, 59, 59);
        x.push();
        CHECK.reads(x, "1 0 x 1 0", 2, 0);
        x.push();
        CHECK.reads(x, "1 0", -3, 3);
        x.pop(2);
        CHECK.reads(x, "1 0 x 1 0", 2, 0);
    }

    private static void byCode() {
        terms("Of one place by code.");
        // a number above n where no number can stand
        reads("x13 0", -2, 1);
        reads("013 0", -2, 1);
        // the 0 of a line, for which there is no room, where no 0 can stand
        CHECK.reads(Check.filled(12, 60, 60), "x0", -2, 1);
        CHECK.reads(Check.filled(12, 60, 60), "-0", -2, 1);
        CHECK.reads(Check.filled(12, 60, 60), "1 -0", -4, 1);
    }

    private static void readIsEmptyThen() {
        CHECK.says(5, "The tape, which is empty then:");
        ParityClauses x = reads("1 0", 1, 0);
        CHECK.answers(x, 0, "count", 4);
        CHECK.answers(x, 0, "read");
        CHECK.answers(x, 1, "count", 2);
        CHECK.reads(x, "1 0 a 2 0 ", -5, 1);
        CHECK.answers(x, 0, "count", 4);
        CHECK.answers(x, 0, "read");
        CHECK.answers(x, 1, "feed", 32L, 1);
        CHECK.answers(x, 0, "read");
        // 500 bytes may come again, behind a fault too
        CHECK.reads(x, "a".repeat(500), -1, 1);
        CHECK.reads(x, " ".repeat(500), 0, 0);
        CHECK.reads(x, "2 0", 1, 0);
    }

    private static void readComesBehind() {
        CHECK.says(5, "all its LINES come behind what there is:");
        ParityClauses x = new ParityClauses(12);
        x.equation(5L, 0);
        x.clause(7L, 8L);
        CHECK.reads(x, "1 0 x 2 0\n-3 0\nx -4 0", 4, 0);
        long[] sets = {5, 2, 8};
        long[] firsts = {7, 1, 0};
        long[] seconds = {8, 0, 4};
        for (int i = 0; i < 3; i++) {
            CHECK.answers(x, sets[i], "told", i, 0);
            CHECK.answers(x, i % 2, "told", i, 1);
            CHECK.answers(x, firsts[i], "told", i, 2);
            CHECK.answers(x, seconds[i], "told", i, 3);
        }
        CHECK.answers(x, 3, "equation", 1L, 1);
        CHECK.answers(x, 3, "clause", 1L, 0L);
        CHECK.answers(x, 4, "rows");
        x.push();
        CHECK.reads(x, "x 5 0 5 0", 2, 0);
        CHECK.answers(x, 5, "rows");
        CHECK.answers(x, 8, "pop", 1);
        CHECK.answers(x, 4, "rows");
        CHECK.answers(x, 0, "gates");
        CHECK.reads(x, "1 2 0 -1 -2 0", 2, 0);
        CHECK.answers(x, 1, "gates");
    }

    private static void readTellsHowMany() {
        CHECK.says(5, "how many LINES;");
        ParityClauses x = new ParityClauses(12);
        CHECK.answers(x, 0, "read");
        CHECK.reads(x, " ", 0, 0);
        CHECK.reads(x, "x 1 0", 1, 0);
        CHECK.reads(x, "1 0 2 0 x 3 0", 3, 0);
        CHECK.reads(x, "1 -1 0 2 -2 0", 2, 0);
    }

    private static void readTellsThePlace() {
        CHECK.says(5, "-1 less the place of a FAULT: none comes.");
        wrongAt(0, "a");
        wrongAt(1, " a");
        wrongAt(499, "0 " + " ".repeat(497) + "a");
        wrongAt(500, "0 " + " ".repeat(497) + "1");
        String[] faults = {"a", "13 0", "0"};
        for (int code = 1; code <= 3; code++) {
            ParityClauses x = Check.filled(12, 20, 57);
            String before = "1 0 x 1 0 x 2 0 1 2 0 2 0 ";
            CHECK.reads(x, before + faults[code - 1], -1 - before.length(), code);
            CHECK.answers(x, 20, "count", 1);
            CHECK.answers(x, 57, "count", 2);
            CHECK.answers(x, 0, "rows");
            CHECK.fails(x, Check.INDEX, "told", 20, 0);
            CHECK.fails(x, Check.INDEX, "told", 57, 2);
            CHECK.answers(x, 20, "equation", 1L, 0);
            CHECK.answers(x, 57, "clause", 1L, 0L);
        }
        // what was there before stays as it was
        ParityClauses x = reads("1 2 0 -1 -2 0 x 3 0", 3, 0);
        CHECK.answers(x, 1, "gates");
        CHECK.reads(x, "4 0 1 -2 0 -1 2 0 x 0 13 0", -23, 2);
        CHECK.answers(x, 1, "rows");
        CHECK.answers(x, 1, "gates");
        CHECK.answers(x, 3, "told", 1, 3);
    }

    private static void fault() {
        CHECK.says(6, "The FAULT of the latest read();");
        ParityClauses x = Check.filled(12, 0, 60);
        CHECK.reads(x, "a", -1, 1);
        CHECK.reads(x, "13", -1, 2);
        CHECK.reads(x, "0", -1, 3);
        CHECK.reads(x, "1", -2, 1);
        CHECK.says(6, "0 for none, and before.");
        CHECK.answers(new ParityClauses(12), 0, "fault");
        CHECK.reads(x, "1 -1 0", 1, 0);
        CHECK.reads(x, "a", -1, 1);
        // the tape alone is no read(), and neither is a call that is refused
        Check.feed(x, "0 ");
        CHECK.answers(x, 1, "fault");
        CHECK.fails(x, Check.STATE, "clause", 0L, 0L);
        CHECK.answers(x, 1, "fault");
        CHECK.answers(x, -1, "read");
        CHECK.answers(x, 3, "fault");
        CHECK.answers(x, 0, "read");
        CHECK.answers(x, 0, "fault");
    }
}
