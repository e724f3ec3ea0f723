/** read() and fault(): what lines say, and which fault is told where. */
public final class LinesTest {
    private static final Check CHECK = new Check("LinesTest");

    public static void main(String[] args) {
        meaning();
        places();
        bytesThatCannotStand();
        tooMany();
        nothingComes();
        CHECK.end();
    }

    private static void meaning() {
        ParityClauses x = new ParityClauses(12);
        reads(x, "", 0, 0);
        reads(x, " \n ", 0, 0);
        reads(x, "\n1 -3\n1  12 0\nx 1 -2 0 x -2 -4 1 0\n", 3, 0);
        CHECK.answers(x, 1 | 1 << 11, "told", 0, 2);
        CHECK.answers(x, 4, "told", 0, 3);
        CHECK.answers(x, 3, "told", 0, 0);
        CHECK.answers(x, 0, "told", 0, 1);
        CHECK.answers(x, 11, "told", 1, 0);
        CHECK.answers(x, 1, "told", 1, 1);
        // a variable twice, and thrice; a - counts even if the variable goes
        reads(x, "x 1 1 2 0 x 3 -3 0 x 5 5 5 0 x 0", 4, 0);
        CHECK.answers(x, 2, "told", 2, 0);
        CHECK.answers(x, 1, "told", 2, 1);
        CHECK.answers(x, 0, "told", 3, 0);
        CHECK.answers(x, 0, "told", 3, 1);
        CHECK.answers(x, 16, "told", 4, 0);
        CHECK.answers(x, 0, "told", 5, 0);
        CHECK.answers(x, 1, "told", 5, 1);
        CHECK.answers(x, 32, "blame");
        // one that has a variable and its - is a line, and does not come; an empty clause does
        reads(x, "4 2 -4 0 0 7 0", 3, 0);
        CHECK.answers(x, 3, "count", 2);
        CHECK.answers(x, 0, "told", 1, 2);
        CHECK.answers(x, 0, "told", 1, 3);
        CHECK.answers(x, 64, "told", 2, 2);
    }

    private static void places() {
        ParityClauses x = new ParityClauses(12);
        reads(x, "12 0", 1, 0);
        reads(x, "13 0", -1, 2);
        reads(x, " -13 0", -3, 2);
        reads(x, "1 99999999999999999999 0", -3, 2);
        reads(x, "4294967297 0", -1, 2);
        reads(x, "13", -1, 2);
        reads(x, "13a", -1, 2);
        reads(x, "1a 13 0", -2, 1);
        reads(x, "1 13 a", -3, 2);
        ParityClauses one = new ParityClauses(1);
        reads(one, "1 0", 1, 0);
        reads(one, "1 0\n10 0", -5, 2);
        reads(one, "x 2 0", -3, 2);
        reads(one, "1".repeat(500), -1, 2);
        reads(one, " ".repeat(500), 0, 0);
        reads(one, "1 -1 0\n".repeat(71), 71, 0);
        reads(one, "x " + "1 ".repeat(248) + "0 ", 1, 0);
        reads(one, "0 ".repeat(250), -119, 3);
        reads(one, "x 0 ".repeat(125), -239, 3);
    }

    private static void bytesThatCannotStand() {
        ParityClauses x = new ParityClauses(12);
        String[] texts = {"1", "1 ", "x", "x ", "-", "1 -", "x 1", "1 0 2", "x1 0", "x-1 0", "x0", "xx 0", "x x 0", "1 x 0",
            "00", "01 0", "0x", "0-1 0", "1-2 0", "- 1 0", "--1 0", "-0", "-x", "1x 0", "1\t0", "1\r\n0", "X 1 0", "+1 0",
            "1 0\u00a0", "\u0000", "1 02", "1 0 1 010"};
        int[] places = {1, 2, 1, 2, 1, 3, 3, 5, 1, 1, 1, 1, 2, 2,
            1, 1, 1, 1, 1, 1, 1, 1, 1, 1, 1, 1, 0, 0,
            3, 0, 3, 7};
        for (int i = 0; i < texts.length; i++) {
            reads(x, texts[i], -1 - places[i], 1);
        }
        CHECK.answers(x, 0, "count", 1);
        CHECK.answers(x, 0, "count", 2);
        x.feed(0x8130L, 2);
        CHECK.answers(x, -1, "read");
        x.feed(0xFFFFFFFFFFFFFF20L, 8);
        CHECK.answers(x, -1, "read");
    }

    private static void tooMany() {
        ParityClauses x = new ParityClauses(2);
        for (int i = 0; i < 59; i++) {
            x.clause(1L, 0L);
            x.equation(1L, 0);
        }
        reads(x, "1 0 2 0", -7, 3);
        reads(x, "x 1 0 x 0", -9, 3);
        reads(x, "1 0 1 -1 0 x 2 0", 3, 0);
        CHECK.answers(x, 60, "count", 1);
        CHECK.answers(x, 60, "count", 2);
        reads(x, "1 -1 0", 1, 0);
        reads(x, "0", -1, 3);
        reads(x, "01", -1, 3);
        reads(x, "x 1 0", -5, 3);
        reads(x, "x 1 3 0", -5, 2);
        reads(x, "1 0 3 0", -3, 3);
        reads(x, "1 - 0", -4, 1);
    }

    private static void nothingComes() {
        ParityClauses x = new ParityClauses(4);
        x.clause(1L, 0L);
        reads(x, "2 0 x 3 0 5 0", -11, 2);
        CHECK.answers(x, 0, "count", 1);
        CHECK.answers(x, 1, "count", 2);
        CHECK.answers(x, 0, "count", 4);
        CHECK.answers(x, 0, "rows");
        CHECK.answers(x, 2, "fault");
        CHECK.answers(x, 0, "read");
        CHECK.answers(x, 0, "fault");
        reads(x, "2 0 x 3 0", 2, 0);
        CHECK.answers(x, 1, "rows");
        CHECK.answers(x, 2, "told", 1, 2);
        x.push();
        reads(x, "x 4 0 4 0", 2, 0);
        CHECK.answers(x, 3, "pop", 1);
    }

    private static void reads(ParityClauses x, String text, int answer, int fault) {
        Check.feed(x, text);
        CHECK.due("read() of <" + text + ">", x.read(), answer);
        CHECK.due("fault() of <" + text + ">", x.fault(), fault);
    }
}
