/** Promises 1 to 4 and 7 to 25: a test for each sentence, by the promise's number (5 and 6 are in LinesTest). */
public final class PromisesTest {
    private static final Check CHECK = new Check("PromisesTest");
    private static final String INDEX = Check.INDEX;
    private static final String ARGUMENT = Check.ARGUMENT;
    private static final String STATE = Check.STATE;
    private static final int MIN = Check.MIN;
    private static final int MAX = Check.MAX;
    private static final long RIGHT = Check.RIGHT;
    private static final long ALL_40 = (1L << 40) - 1L;

    public static void main(String[] args) {
        newObject();
        equation();
        equationRefused();
        clause();
        clauseRefused();
        feed();
        feedRefused();
        push();
        pop();
        popRefused();
        told();
        rows();
        row();
        blame();
        solutions();
        solution();
        sum();
        follow();
        solve();
        model();
        models();
        nodes();
        must();
        mustSearch();
        gates();
        gate();
        count();
        clear();
        for (int promise = 1; promise <= 25; promise++) {
            if (promise != 5 && promise != 6) {
                CHECK.saysNoMore("Promise " + promise);
            }
        }
        CHECK.end();
    }

    private static void newObject() {
        CHECK.says(1, "No EQUATIONS, no CLAUSES;");
        for (int n : new int[] {1, 2, 39, 40}) {
            ParityClauses x = new ParityClauses(n);
            CHECK.answers(x, n, "count", 0);
            for (int what = 1; what <= 4; what++) {
                CHECK.answers(x, 0, "count", what);
            }
            for (int what = 0; what <= 3; what++) {
                CHECK.fails(x, INDEX, "told", 0, what);
            }
            CHECK.answers(x, 0, "rows");
            CHECK.fails(x, INDEX, "row", 0);
            CHECK.answers(x, 0, "blame");
            CHECK.answers(x, 1L << n, "solutions");
            CHECK.answers(x, 0, "gates");
            CHECK.fails(x, INDEX, "gate", 0);
            CHECK.answers(x, 0, "pop", 0);
            CHECK.answers(x, 0, "follow", 0L, 0L, true);
            CHECK.answers(x, 0, "follow", 0L, 0L, false);
            CHECK.answers(x, 1, "solve", n + 1);
        }
        CHECK.says(1, "n below 1 counts as 1,");
        for (int n : new int[] {0, -1, -40, MIN}) {
            ParityClauses x = new ParityClauses(n);
            CHECK.answers(x, 1, "count", 0);
            CHECK.answers(x, 2, "solutions");
            CHECK.answers(x, 2, "models", 3);
            CHECK.answers(x, 0, "equation", 1L, 1);
            CHECK.fails(x, ARGUMENT, "equation", 2L, 1);
            CHECK.answers(x, 1, "must", 1, 1);
            CHECK.fails(x, INDEX, "must", 2, 1);
        }
        CHECK.says(1, "above 40 as 40.");
        for (int n : new int[] {41, 64, MAX}) {
            ParityClauses x = new ParityClauses(n);
            CHECK.answers(x, 40, "count", 0);
            CHECK.answers(x, 1L << 40, "solutions");
            CHECK.answers(x, 0, "equation", 1L << 39, 1);
            CHECK.fails(x, ARGUMENT, "equation", 1L << 40, 1);
            CHECK.answers(x, 1, "must", 40, 5000);
            CHECK.fails(x, INDEX, "must", 41, 5000);
        }
    }

    private static void equation() {
        CHECK.says(2, "An EQUATION more: its number.");
        ParityClauses x = new ParityClauses(5);
        CHECK.answers(x, 0, "equation", 31L, 1);
        CHECK.answers(x, 1, "equation", 0L, 0);
        CHECK.answers(x, 2, "equation", 31L, 1);
        CHECK.answers(x, 3, "count", 1);
        CHECK.answers(x, 0, "clause", 1L, 0L);
        CHECK.answers(x, 3, "equation", 4L, 0);
        CHECK.answers(x, 2, "rows");
        x.push();
        CHECK.answers(x, 4, "equation", 8L, 0);
        x.pop(1);
        CHECK.answers(x, 4, "equation", 16L, 0);
        CHECK.answers(x, 16, "told", 4, 0);
        for (int i = 5; i < 60; i++) {
            CHECK.answers(x, i, "equation", (long) i % 32, i % 2);
        }
        CHECK.answers(x, 27, "told", 59, 0);
        CHECK.answers(x, 1, "told", 59, 1);
        CHECK.answers(x, 60, "count", 1);
    }

    private static void equationRefused() {
        CHECK.says(2, "IllegalArgument: variables that there are not, or right is not 0 or 1.");
        ParityClauses x = new ParityClauses(5);
        x.equation(3L, 1);
        for (long set : new long[] {32, 33, 1L << 40, RIGHT, -1, Long.MIN_VALUE, Long.MAX_VALUE, 1L << 32}) {
            CHECK.refuses(x, ARGUMENT, "equation", set, 0);
        }
        ParityClauses y = new ParityClauses(5);
        for (int right : new int[] {2, 3, -1, MIN, MAX, MIN + 1, MAX - 1}) {
            CHECK.refuses(y, ARGUMENT, "equation", 1L, right);
        }
        CHECK.refuses(y, ARGUMENT, "equation", 32L, 2);
        CHECK.answers(y, 0, "equation", 31L, 1);
        ParityClauses wide = new ParityClauses(40);
        CHECK.answers(wide, 0, "equation", ALL_40, 1);
        CHECK.refuses(wide, ARGUMENT, "equation", 1L << 40, 1);
        CHECK.refuses(wide, ARGUMENT, "equation", RIGHT, 0);
        ParityClauses one = new ParityClauses(1);
        CHECK.answers(one, 0, "equation", 1L, 1);
        CHECK.refuses(one, ARGUMENT, "equation", 2L, 1);
        CHECK.says(2, "IllegalState: there are 60.");
        ParityClauses full = Check.filled(5, 59, 0);
        CHECK.answers(full, 59, "equation", 1L, 0);
        CHECK.refuses(full, STATE, "equation", 1L, 0);
        CHECK.refuses(full, STATE, "equation", 0L, 1);
        CHECK.refuses(full, ARGUMENT, "equation", 1L, 2);
        CHECK.refuses(full, ARGUMENT, "equation", 32L, 0);
        CHECK.answers(full, 0, "clause", 1L, 0L);
        full.push();
        CHECK.refuses(full, STATE, "equation", 1L, 0);
        full.clear();
        CHECK.answers(full, 0, "equation", 1L, 0);
        ParityClauses byLines = new ParityClauses(5);
        CHECK.reads(byLines, "x 0 ".repeat(60), 60, 0);
        CHECK.refuses(byLines, STATE, "equation", 1L, 0);
    }

    private static void clause() {
        CHECK.says(3, "A CLAUSE more: its number.");
        ParityClauses x = new ParityClauses(5);
        CHECK.answers(x, 0, "clause", 16L, 15L);
        CHECK.answers(x, 1, "clause", 31L, 0L);
        CHECK.answers(x, 2, "clause", 0L, 31L);
        CHECK.answers(x, 0, "equation", 1L, 0);
        CHECK.answers(x, 3, "clause", 16L, 15L);
        x.push();
        CHECK.answers(x, 4, "clause", 0L, 0L);
        CHECK.answers(x, 0, "solve", 1);
        x.pop(1);
        CHECK.answers(x, 1, "solve", 5000);
        CHECK.answers(x, 4, "clause", 1L, 2L);
        CHECK.answers(x, 1, "told", 4, 2);
        CHECK.answers(x, 2, "told", 4, 3);
        for (int i = 5; i < 60; i++) {
            CHECK.answers(x, i, "clause", (long) i % 32, 31L - i % 32);
        }
        CHECK.answers(x, 27, "told", 59, 2);
        CHECK.answers(x, 4, "told", 59, 3);
        CHECK.answers(x, 60, "count", 2);
    }

    private static void clauseRefused() {
        CHECK.says(3, "IllegalArgument: variables that there are not, or in both.");
        ParityClauses x = new ParityClauses(5);
        x.clause(3L, 4L);
        for (long set : new long[] {32, 33, 1L << 32, RIGHT, -1}) {
            CHECK.refuses(x, ARGUMENT, "clause", set, 0L);
            CHECK.refuses(x, ARGUMENT, "clause", 0L, set);
        }
        ParityClauses y = new ParityClauses(5);
        for (long set : new long[] {1, 16, 31}) {
            CHECK.refuses(y, ARGUMENT, "clause", set, set);
            CHECK.refuses(y, ARGUMENT, "clause", set, 31L);
        }
        CHECK.refuses(y, ARGUMENT, "clause", 3L, 6L);
        CHECK.refuses(y, ARGUMENT, "clause", Long.MIN_VALUE, 1L);
        CHECK.refuses(y, ARGUMENT, "clause", 1L, Long.MIN_VALUE);
        CHECK.answers(y, 0, "clause", 21L, 10L);
        ParityClauses wide = new ParityClauses(40);
        CHECK.answers(wide, 0, "clause", 1L << 39, ALL_40 >> 1);
        CHECK.refuses(wide, ARGUMENT, "clause", 1L << 40, 0L);
        CHECK.refuses(wide, ARGUMENT, "clause", 0L, 1L << 40);
        CHECK.refuses(wide, ARGUMENT, "clause", 1L << 39, 1L << 39);
        CHECK.says(3, "IllegalState: there are 60.");
        ParityClauses full = Check.filled(5, 0, 59);
        CHECK.answers(full, 59, "clause", 1L, 0L);
        CHECK.refuses(full, STATE, "clause", 1L, 0L);
        CHECK.refuses(full, STATE, "clause", 0L, 0L);
        CHECK.refuses(full, ARGUMENT, "clause", 1L, 1L);
        CHECK.refuses(full, ARGUMENT, "clause", 0L, 32L);
        CHECK.answers(full, 0, "equation", 1L, 0);
        full.clear();
        CHECK.answers(full, 0, "clause", 1L, 0L);
        ParityClauses byLines = new ParityClauses(5);
        CHECK.reads(byLines, "0 ".repeat(60), 60, 0);
        CHECK.refuses(byLines, STATE, "clause", 1L, 0L);
    }

    private static void feed() {
        CHECK.says(4, "The lowest n bytes of a number, the highest of these first, come behind the tape: how many it has.");
        ParityClauses x = new ParityClauses(12);
        // "3 0" behind bytes that are not asked for
        CHECK.answers(x, 3, "feed", 0x7F7F7F7F7F332030L, 3);
        CHECK.answers(x, 3, "count", 4);
        CHECK.answers(x, 1, "read");
        CHECK.answers(x, 4, "told", 0, 2);
        // "1 -2 3 0", the highest byte first
        CHECK.answers(x, 8, "feed", 0x31202D3220332030L, 8);
        CHECK.answers(x, 1, "read");
        CHECK.answers(x, 5, "told", 1, 2);
        CHECK.answers(x, 2, "told", 1, 3);
        // "12" and not "21", and what comes later stands behind it
        CHECK.answers(x, 2, "feed", 0x3132L, 2);
        CHECK.answers(x, 4, "feed", 0x2030L, 2);
        CHECK.answers(x, 1, "read");
        CHECK.answers(x, 1L << 11, "told", 2, 2);
        // each n tells how many come
        long bytes = 0x2020202020202030L;
        int length = 0;
        for (int n = 1; n <= 8; n++) {
            length += n;
            CHECK.answers(x, length, "feed", n == 1 ? bytes : bytes & ~0xFFL | 0x20L, n);
        }
        CHECK.answers(x, 36, "count", 4);
        CHECK.answers(x, 1, "read");
        // the highest byte may be above 127
        CHECK.answers(x, 8, "feed", 0xA020202020202030L, 8);
        CHECK.answers(x, -1, "read");
        CHECK.answers(x, 7, "feed", 0xA020202020202030L, 7);
        CHECK.answers(x, 1, "read");
    }

    private static void feedRefused() {
        CHECK.says(4, "IllegalArgument: n is not 1 .. 8.");
        ParityClauses x = new ParityClauses(3);
        x.feed(0x31L, 1);
        for (int n : new int[] {0, 9, -1, 16, MIN, MAX}) {
            CHECK.refuses(x, ARGUMENT, "feed", 0x20L, n);
        }
        CHECK.answers(x, 2, "feed", 0x20L, 1);
        CHECK.answers(x, 10, "feed", 0x20L, 8);
        CHECK.says(4, "IllegalState: there would be more than 500.");
        ParityClauses y = new ParityClauses(3);
        Check.feed(y, "1 0" + " ".repeat(490));
        CHECK.refuses(y, STATE, "feed", 0L, 8);
        CHECK.answers(y, 500, "feed", 0x20202020202030L, 7);
        for (int n = 1; n <= 8; n++) {
            CHECK.fails(y, STATE, "feed", 0x20L, n);
        }
        CHECK.refuses(y, STATE, "feed", 0x20L, 1);
        CHECK.refuses(y, STATE, "feed", 0x20L, 8);
        CHECK.refuses(y, ARGUMENT, "feed", 0x20L, 9);
        CHECK.refuses(y, ARGUMENT, "feed", 0x20L, 0);
        CHECK.answers(y, 2, "read");
        CHECK.answers(y, 1, "feed", 0x20L, 1);
        ParityClauses z = new ParityClauses(3);
        Check.feed(z, " ".repeat(499));
        CHECK.refuses(z, STATE, "feed", 0x2020L, 2);
        CHECK.answers(z, 500, "feed", 0x20L, 1);
    }

    private static void push() {
        CHECK.says(7, "A LEVEL more: how many.");
        ParityClauses x = new ParityClauses(4);
        for (int i = 1; i <= 20; i++) {
            CHECK.answers(x, i, "push");
            CHECK.answers(x, i, "count", 3);
        }
        CHECK.says(7, "IllegalState: there are 20.");
        CHECK.refuses(x, STATE, "push");
        x.equation(1L, 1);
        CHECK.refuses(x, STATE, "push");
        CHECK.answers(x, 20, "count", 3);
        CHECK.answers(x, 0, "pop", 1);
        CHECK.answers(x, 20, "push");
        CHECK.refuses(x, STATE, "push");
        x.pop(20);
        CHECK.answers(x, 1, "push");
    }

    private static void pop() {
        CHECK.says(8, "The latest n LEVELS go, with all that came behind the first of these: how many EQUATIONS and CLAUSES are left.");
        ParityClauses x = new ParityClauses(4);
        CHECK.answers(x, 0, "pop", 0);
        x.equation(3L, 1);
        CHECK.answers(x, 1, "pop", 0);
        x.push();
        x.push();
        x.equation(2L, 1);
        x.clause(4L, 8L);
        x.push();
        x.clause(8L, 0L);
        CHECK.answers(x, 4, "pop", 0);
        CHECK.answers(x, 3, "count", 3);
        CHECK.answers(x, 3, "pop", 1);
        CHECK.answers(x, 2, "count", 3);
        CHECK.answers(x, 2, "count", 1);
        CHECK.answers(x, 1, "count", 2);
        CHECK.answers(x, 2, "rows");
        x.push();
        x.equation(4L, 0);
        x.clause(0L, 1L);
        // behind the first of the two that go came all but the first equation
        CHECK.answers(x, 1, "pop", 2);
        CHECK.answers(x, 1, "count", 3);
        CHECK.answers(x, 1, "count", 1);
        CHECK.answers(x, 0, "count", 2);
        CHECK.answers(x, 1, "rows");
        CHECK.fails(x, INDEX, "told", 1, 0);
        CHECK.fails(x, INDEX, "told", 0, 2);
        CHECK.answers(x, 1, "pop", 1);
        CHECK.answers(x, 0, "count", 3);
        popAll();
        popTakesBack();
    }

    private static void popAll() {
        ParityClauses x = new ParityClauses(20);
        x.clause(1L, 2L);
        for (int i = 0; i < 20; i++) {
            x.push();
            x.equation(1L << i, 0);
            x.clause(1L << i, 0L);
        }
        CHECK.answers(x, 41, "pop", 0);
        CHECK.answers(x, 39, "pop", 1);
        CHECK.answers(x, 21, "pop", 9);
        CHECK.answers(x, 10, "rows");
        CHECK.answers(x, 1, "pop", 10);
        CHECK.answers(x, 0, "rows");
        CHECK.answers(x, 0, "count", 3);
    }

    /** Lines that were read go too, and what was IMPOSSIBLE is not any more; the tape stays. */
    private static void popTakesBack() {
        ParityClauses x = new ParityClauses(4);
        CHECK.reads(x, "x 1 2 0 1 2 0", 2, 0);
        x.push();
        CHECK.reads(x, "x 1 -2 0 -1 -2 0", 2, 0);
        CHECK.answers(x, -1, "rows");
        CHECK.answers(x, 1, "gates");
        Check.feed(x, "3 0");
        CHECK.answers(x, 2, "pop", 1);
        CHECK.answers(x, 1, "rows");
        CHECK.answers(x, 0, "gates");
        CHECK.answers(x, 0, "blame");
        CHECK.answers(x, 3, "count", 4);
        CHECK.answers(x, 1, "read");
        CHECK.answers(x, 4, "told", 1, 2);
    }

    private static void popRefused() {
        CHECK.says(8, "IllegalArgument: n is below 0, or there are not so many.");
        ParityClauses x = new ParityClauses(4);
        CHECK.refuses(x, ARGUMENT, "pop", 1);
        CHECK.refuses(x, ARGUMENT, "pop", -1);
        x.equation(1L, 0);
        x.push();
        x.push();
        x.equation(2L, 0);
        for (int n : new int[] {3, 4, 20, MAX, -1, -2, MIN}) {
            CHECK.refuses(x, ARGUMENT, "pop", n);
        }
        CHECK.answers(x, 1, "pop", 2);
        CHECK.refuses(x, ARGUMENT, "pop", 1);
        for (int i = 0; i < 20; i++) {
            x.push();
        }
        CHECK.fails(x, ARGUMENT, "pop", 21);
        CHECK.answers(x, 1, "pop", 20);
    }

    private static void told() {
        CHECK.says(9, "Of EQUATION i its SET (what = 0), its RIGHT side (1); of CLAUSE i its first (2), its second SET (3).");
        ParityClauses x = new ParityClauses(40);
        x.equation(9L, 1);
        x.equation(ALL_40, 0);
        x.equation(0L, 1);
        x.clause(5L, 1L << 39);
        x.clause(0L, 0L);
        long[][] due = {{9, 1, 5, 1L << 39}, {ALL_40, 0, 0, 0}, {0, 1}};
        for (int i = 0; i < 3; i++) {
            for (int what = 0; what < due[i].length; what++) {
                CHECK.answers(x, due[i][what], "told", i, what);
            }
        }
        for (int what = 0; what <= 3; what++) {
            for (int i : new int[] {-1, what < 2 ? 3 : 2, 60, MIN, MAX}) {
                CHECK.fails(x, INDEX, "told", i, what);
            }
        }
        // those that are not there any more are not told either
        x.push();
        x.equation(1L, 0);
        x.clause(1L, 0L);
        CHECK.answers(x, 1, "told", 3, 0);
        CHECK.answers(x, 1, "told", 2, 2);
        x.pop(1);
        CHECK.fails(x, INDEX, "told", 3, 0);
        CHECK.fails(x, INDEX, "told", 2, 3);
        ParityClauses onlyClauses = Check.filled(4, 0, 60);
        CHECK.answers(onlyClauses, 15, "told", 59, 2);
        CHECK.fails(onlyClauses, INDEX, "told", 60, 2);
        CHECK.fails(onlyClauses, INDEX, "told", 0, 0);
        CHECK.fails(onlyClauses, INDEX, "told", 0, 1);
        ParityClauses onlyEquations = Check.filled(4, 60, 0);
        CHECK.answers(onlyEquations, 0, "told", 59, 0);
        CHECK.fails(onlyEquations, INDEX, "told", 60, 0);
        CHECK.fails(onlyEquations, INDEX, "told", 0, 2);
        CHECK.fails(onlyEquations, INDEX, "told", 0, 3);
        CHECK.says(9, "IllegalArgument: another what.");
        for (int what : new int[] {-1, 4, 5, MIN, MAX}) {
            CHECK.refuses(x, ARGUMENT, "told", 0, what);
        }
        CHECK.fails(new ParityClauses(4), ARGUMENT, "told", 0, 4);
    }

    private static void rows() {
        CHECK.says(10, "How many ROWS there are;");
        ParityClauses x = new ParityClauses(6);
        CHECK.answers(x, 0, "rows");
        x.equation(0L, 0);
        CHECK.answers(x, 0, "rows");
        x.equation(7L, 1);
        x.equation(7L, 1);
        CHECK.answers(x, 1, "rows");
        x.equation(6L, 0);
        x.equation(1L, 1);
        CHECK.answers(x, 2, "rows");
        x.clause(8L, 0L);
        CHECK.answers(x, 2, "rows");
        ParityClauses most = new ParityClauses(40);
        for (int v = 0; v < 40; v++) {
            most.equation(ALL_40 >> v, v % 2);
            CHECK.answers(most, v + 1, "rows");
        }
        most.equation(3L, 0);
        CHECK.answers(most, 40, "rows");
        CHECK.says(10, "NONE, if they are IMPOSSIBLE.");
        most.push();
        most.equation(3L, 1);
        CHECK.answers(most, -1, "rows");
        most.pop(1);
        CHECK.answers(most, 40, "rows");
        ParityClauses one = new ParityClauses(1);
        one.equation(0L, 1);
        CHECK.answers(one, -1, "rows");
        one.equation(1L, 1);
        CHECK.answers(one, -1, "rows");
    }

    private static void row() {
        CHECK.says(11, "ROW i: its SET, and, if its RIGHT side is 1, bit 62.");
        ParityClauses x = new ParityClauses(6);
        CHECK.fails(x, INDEX, "row", 0);
        x.equation(7L, 1);
        x.equation(6L, 0);
        x.equation(1L, 1);
        x.equation(36L, 1);
        CHECK.answers(x, 1L | RIGHT, "row", 0);
        CHECK.answers(x, 34L | RIGHT, "row", 1);
        CHECK.answers(x, 36L | RIGHT, "row", 2);
        for (int i : new int[] {3, 4, -1, MIN, MAX}) {
            CHECK.refuses(x, INDEX, "row", i);
        }
        x.equation(0L, 1);
        CHECK.fails(x, INDEX, "row", 0);
        CHECK.fails(x, INDEX, "row", -1);
        ParityClauses most = new ParityClauses(40);
        for (int v = 39; v >= 0; v--) {
            most.equation(1L << v, v % 2);
        }
        for (int v = 0; v < 40; v++) {
            CHECK.answers(most, v % 2 == 0 ? 1L << v : 1L << v | RIGHT, "row", v);
        }
        CHECK.fails(most, INDEX, "row", 40);
    }

    private static void blame() {
        CHECK.says(12, "THE SUM OF BLAME;");
        ParityClauses x = new ParityClauses(4);
        x.equation(0L, 1);
        CHECK.answers(x, 1, "blame");
        ParityClauses last = Check.filled(4, 59, 0);
        last.equation(0L, 1);
        CHECK.answers(last, 1L << 59, "blame");
        ParityClauses long60 = new ParityClauses(40);
        for (int i = 0; i < 59; i++) {
            long60.equation(i < 39 ? 3L << i : 0L, 0);
        }
        CHECK.answers(long60, 0, "blame");
        long60.equation(1L | 1L << 39, 1);
        CHECK.answers(long60, (1L << 59) + (1L << 39) - 1, "blame");
        CHECK.says(12, "0 if they are not IMPOSSIBLE.");
        ParityClauses y = new ParityClauses(4);
        CHECK.answers(y, 0, "blame");
        y.equation(3L, 1);
        y.equation(3L, 1);
        y.equation(0L, 0);
        y.clause(0L, 0L);
        CHECK.answers(y, 0, "blame");
        y.push();
        y.equation(3L, 0);
        CHECK.answers(y, 9, "blame");
        y.pop(1);
        CHECK.answers(y, 0, "blame");
    }

    private static void solutions() {
        CHECK.says(13, "How many SOLUTIONS there are.");
        for (int n : new int[] {1, 2, 31, 32, 33, 40}) {
            CHECK.answers(new ParityClauses(n), 1L << n, "solutions");
        }
        ParityClauses x = new ParityClauses(40);
        for (int v = 0; v < 40; v++) {
            x.equation(1L << v | 1L, v == 3 ? 1 : 0);
            CHECK.answers(x, 1L << (39 - v), "solutions");
        }
        CHECK.answers(x, 1, "solutions");
        x.clause(0L, 0L);
        CHECK.answers(x, 1, "solutions");
        x.equation(3L, 1);
        CHECK.answers(x, 0, "solutions");
    }

    private static void solution() {
        CHECK.says(14, "SOLUTION k;");
        ParityClauses x = new ParityClauses(3);
        long[] inOrder = {0, 4, 2, 6, 1, 5, 3, 7};
        for (int k = 0; k < 8; k++) {
            CHECK.answers(x, inOrder[k], "solution", (long) k);
        }
        ParityClauses twins = new ParityClauses(40);
        for (int v = 0; v < 20; v++) {
            twins.equation(1L << v | 1L << (v + 20), 0);
        }
        for (long k : new long[] {0, 1, 2, 3, 12345, 987654, (1L << 20) - 1}) {
            long half = Long.reverse(k) >>> 44;
            CHECK.answers(twins, half | half << 20, "solution", k);
        }
        ParityClauses free = new ParityClauses(40);
        for (long k : new long[] {0, 1, 1L << 31, 1L << 32, (1L << 32) + 1, ALL_40 - 1, ALL_40}) {
            CHECK.answers(free, Long.reverse(k) >>> 24, "solution", k);
        }
        CHECK.says(14, "NONE if there is none.");
        for (long k : new long[] {8, 9, -1, 1L << 32, 1L << 40, Long.MAX_VALUE, Long.MIN_VALUE}) {
            CHECK.answers(x, -1, "solution", k);
        }
        CHECK.answers(twins, -1, "solution", 1L << 20);
        CHECK.answers(free, -1, "solution", 1L << 40);
        CHECK.answers(free, -1, "solution", -1L);
        x.equation(1L, 1);
        x.equation(6L, 0);
        CHECK.answers(x, 1, "solution", 0L);
        CHECK.answers(x, 7, "solution", 1L);
        CHECK.answers(x, -1, "solution", 2L);
        x.equation(7L, 0);
        CHECK.answers(x, -1, "solution", 0L);
        CHECK.answers(x, -1, "solution", -1L);
    }

    private static void sum() {
        CHECK.says(15, "What the sum of a SET is in all SOLUTIONS: 0 or 1;");
        ParityClauses x = new ParityClauses(5);
        CHECK.answers(x, 0, "sum", 0L);
        x.equation(3L, 1);
        x.equation(12L, 0);
        CHECK.answers(x, 0, "sum", 0L);
        CHECK.answers(x, 1, "sum", 3L);
        CHECK.answers(x, 0, "sum", 12L);
        CHECK.answers(x, 1, "sum", 15L);
        CHECK.says(15, "NONE if it is one in some, the other in others;");
        for (long set : new long[] {1, 2, 4, 5, 7, 16, 19, 28, 31}) {
            CHECK.answers(x, -1, "sum", set);
        }
        // clauses make no difference to it
        x.clause(16L, 0L);
        CHECK.answers(x, -1, "sum", 16L);
        CHECK.says(15, "MANY if there are none.");
        x.push();
        x.equation(0L, 1);
        CHECK.answers(x, -2, "sum", 3L);
        CHECK.answers(x, -2, "sum", 0L);
        CHECK.answers(x, -2, "sum", 16L);
        CHECK.fails(x, ARGUMENT, "sum", 32L);
        x.pop(1);
        CHECK.answers(x, 1, "sum", 3L);
        x.clause(0L, 0L);
        CHECK.answers(x, 0, "sum", 0L);
        CHECK.says(15, "IllegalArgument: variables that there are not.");
        for (long set : new long[] {32, 35, 1L << 32, 1L << 40, RIGHT | 3, -1, Long.MIN_VALUE}) {
            CHECK.fails(x, ARGUMENT, "sum", set);
        }
        ParityClauses wide = new ParityClauses(40);
        CHECK.answers(wide, -1, "sum", ALL_40);
        CHECK.refuses(wide, ARGUMENT, "sum", 1L << 40);
        wide.equation(ALL_40, 1);
        CHECK.answers(wide, 1, "sum", ALL_40);
    }

    private static void follow() {
        CHECK.says(16, "What FOLLOWS from some variables taken for 1, some for 0: those that are taken for 1 then (ones), or for 0;");
        ParityClauses x = new ParityClauses(6);
        CHECK.answers(x, 5, "follow", 5L, 10L, true);
        CHECK.answers(x, 10, "follow", 5L, 10L, false);
        CHECK.answers(x, 63, "follow", 63L, 0L, true);
        CHECK.answers(x, 0, "follow", 63L, 0L, false);
        CHECK.answers(x, 0, "follow", 0L, 63L, true);
        CHECK.answers(x, 63, "follow", 0L, 63L, false);
        x.equation(6L, 1);
        x.equation(14L, 0);
        x.clause(16L, 1L);
        x.clause(2L, 16L);
        CHECK.answers(x, 8, "follow", 0L, 0L, true);
        CHECK.answers(x, 0, "follow", 0L, 0L, false);
        // 1, so 5, so 2, so not 3
        CHECK.answers(x, 27, "follow", 1L, 0L, true);
        CHECK.answers(x, 4, "follow", 1L, 0L, false);
        CHECK.answers(x, 12, "follow", 4L, 0L, true);
        CHECK.answers(x, 19, "follow", 4L, 0L, false);
        CHECK.says(16, "NONE, if it FAILS.");
        CHECK.answers(x, -1, "follow", 5L, 0L, true);
        CHECK.answers(x, -1, "follow", 5L, 0L, false);
        CHECK.answers(x, -1, "follow", 0L, 8L, true);
        CHECK.answers(x, -1, "follow", 0L, 8L, false);
        // nothing of a call is kept
        CHECK.answers(x, 8, "follow", 0L, 0L, true);
        CHECK.says(16, "IllegalArgument: variables that there are not, or in both.");
        for (long set : new long[] {64, 65, 1L << 40, RIGHT, -1}) {
            CHECK.fails(x, ARGUMENT, "follow", set, 0L, true);
            CHECK.fails(x, ARGUMENT, "follow", 0L, set, false);
        }
        CHECK.fails(x, ARGUMENT, "follow", 3L, 1L, false);
        CHECK.fails(x, ARGUMENT, "follow", 32L, 63L, true);
        x.equation(0L, 1);
        CHECK.fails(x, ARGUMENT, "follow", 64L, 0L, true);
        CHECK.refuses(x, ARGUMENT, "follow", 1L, 1L, true);
        ParityClauses wide = new ParityClauses(40);
        CHECK.answers(wide, 1L << 39, "follow", 1L << 39, ALL_40 >> 1, true);
        CHECK.refuses(wide, ARGUMENT, "follow", 1L << 40, 0L, true);
    }

    private static void solve() {
        CHECK.says(17, "THE SEARCH up to its first MODEL, with so many NODES at most: 1 there is one, 0 there is none;");
        ParityClauses x = new ParityClauses(3);
        CHECK.answers(x, 1, "solve", 5000);
        x.clause(7L, 0L);
        x.clause(3L, 4L);
        // 1 = 0, in it 2 = 0 (which fails), 2 = 1, in it 3 = 0
        CHECK.answers(x, 1, "solve", 5);
        CHECK.answers(x, 2, "model");
        x.push();
        x.equation(0L, 1);
        CHECK.answers(x, 0, "solve", 1);
        CHECK.answers(x, 0, "solve", 5000);
        x.pop(1);
        x.equation(1L, 0);
        x.equation(2L, 0);
        CHECK.answers(x, 0, "solve", 1);
        CHECK.answers(wrongAtTheBottom(4), 0, "solve", 31);
        ParityClauses one = new ParityClauses(1);
        one.equation(1L, 1);
        CHECK.answers(one, 1, "solve", 1);
        CHECK.answers(one, 1, "model");
        CHECK.says(17, "MANY, if one more would be needed.");
        CHECK.answers(wrongAtTheBottom(4), -2, "solve", 30);
        CHECK.answers(wrongAtTheBottom(4), -2, "solve", 1);
        ParityClauses free = new ParityClauses(40);
        CHECK.answers(free, 1, "solve", 41);
        CHECK.answers(free, -2, "solve", 40);
        CHECK.answers(free, -2, "solve", 1);
        CHECK.answers(wrongAtTheBottom(12), -2, "solve", 5000);
        CHECK.answers(wrongAtTheBottom(11), 0, "solve", 4095);
        CHECK.answers(wrongAtTheBottom(11), -2, "solve", 4094);
        CHECK.says(17, "IllegalArgument: nodes are not 1 .. 5000.");
        for (int nodes : new int[] {0, -1, 5001, MIN, MAX}) {
            CHECK.refuses(one, ARGUMENT, "solve", nodes);
        }
        CHECK.answers(one, 1, "solve", 1);
        CHECK.answers(one, 1, "solve", 5000);
    }

    /** No model, which shows only when all but the last variable are taken: 2 to the power of (free + 1), less 1, nodes. */
    private static ParityClauses wrongAtTheBottom(int free) {
        ParityClauses x = new ParityClauses(free + 1);
        long pair = 3L << (free - 1);
        Check.addGate(x, pair, 0);
        Check.addGate(x, pair, 1);
        return x;
    }

    private static void model() {
        CHECK.says(18, "The MODEL of the latest solve() that had one;");
        ParityClauses x = new ParityClauses(3);
        x.solve(4);
        CHECK.answers(x, 0, "model");
        x.equation(5L, 1);
        CHECK.answers(x, 0, "model");
        x.solve(5000);
        CHECK.answers(x, 4, "model");
        // other searches and refused ones are no solve()
        CHECK.answers(x, 4, "models", 100);
        CHECK.answers(x, -1, "must", 1, 100);
        CHECK.answers(x, -2, "models", 1);
        CHECK.answers(x, 1, "solution", 2L);
        CHECK.fails(x, ARGUMENT, "solve", 0);
        CHECK.answers(x, 4, "model");
        ParityClauses wide = new ParityClauses(40);
        for (int v = 0; v < 40; v++) {
            wide.clause(1L << v, 0L);
        }
        wide.solve(1);
        CHECK.answers(wide, ALL_40, "model");
        CHECK.says(18, "NONE, if the latest had none, and before.");
        CHECK.answers(new ParityClauses(3), -1, "model");
        // it was not found with so few nodes
        CHECK.answers(x, -2, "solve", 2);
        CHECK.answers(x, -1, "model");
        CHECK.answers(x, 1, "solve", 3);
        CHECK.answers(x, 4, "model");
        x.push();
        x.clause(0L, 0L);
        CHECK.answers(x, 0, "solve", 1);
        CHECK.answers(x, -1, "model");
        x.pop(1);
        CHECK.answers(x, -1, "model");
        CHECK.answers(x, 4, "models", 7);
        CHECK.answers(x, -1, "model");
    }

    /** The first variables, as a number with the first one highest, are at most so much: a branch for each that can be. */
    private static ParityClauses atMost(int free, int bound) {
        ParityClauses x = new ParityClauses(free);
        long ones = 0L;
        for (int v = 0; v < free; v++) {
            if ((bound >> (free - 1 - v) & 1) == 1) {
                ones |= 1L << v;
            } else {
                x.clause(0L, ones | 1L << v);
            }
        }
        return x;
    }

    private static void models() {
        CHECK.says(19, "How many MODELS there are, by THE SEARCH to its end;");
        ParityClauses x = new ParityClauses(3);
        CHECK.answers(x, 8, "models", 15);
        x.equation(3L, 1);
        CHECK.answers(x, 4, "models", 7);
        x.clause(1L, 4L);
        CHECK.answers(x, 3, "models", 5);
        x.clause(0L, 0L);
        CHECK.answers(x, 0, "models", 1);
        CHECK.answers(atMost(12, 2499), 2500, "models", 5000);
        CHECK.answers(atMost(12, 2499), 2500, "models", 4999);
        CHECK.answers(wrongAtTheBottom(4), 0, "models", 31);
        CHECK.says(19, "MANY, if it has more NODES.");
        CHECK.answers(new ParityClauses(3), -2, "models", 14);
        CHECK.answers(new ParityClauses(1), -2, "models", 2);
        CHECK.answers(new ParityClauses(1), 2, "models", 3);
        CHECK.answers(atMost(12, 2499), -2, "models", 4998);
        CHECK.answers(atMost(12, 2500), -2, "models", 5000);
        CHECK.answers(wrongAtTheBottom(4), -2, "models", 30);
        CHECK.says(19, "IllegalArgument: as solve().");
        for (int nodes : new int[] {0, -1, 5001, MIN, MAX}) {
            CHECK.refuses(x, ARGUMENT, "models", nodes);
        }
        CHECK.answers(x, 0, "models", 5000);
    }

    private static void nodes() {
        CHECK.says(20, "How many NODES the latest solve(), models(), must() had");
        ParityClauses small = new ParityClauses(3);
        small.clause(7L, 0L);
        small.clause(3L, 4L);
        small.solve(5000);
        CHECK.answers(small, 5, "nodes");
        small.models(5000);
        CHECK.answers(small, 13, "nodes");
        small.must(1, 4);
        CHECK.answers(small, 7, "nodes");
        small.solve(5);
        CHECK.answers(small, 5, "nodes");
        // no other call is one of these, nor one that is refused
        small.follow(1L, 0L, true);
        small.clause(0L, 0L);
        small.push();
        CHECK.fails(small, ARGUMENT, "solve", 0);
        CHECK.fails(small, ARGUMENT, "models", 5001);
        CHECK.fails(small, ARGUMENT, "must", 1, 0);
        CHECK.fails(small, INDEX, "must", 4, 1);
        CHECK.answers(small, 5, "nodes");
        small.solve(5000);
        CHECK.answers(small, 1, "nodes");
        CHECK.says(20, "(of must() both together, if it looked twice;");
        ParityClauses x = new ParityClauses(40);
        CHECK.answers(x, -1, "must", 40, 40);
        CHECK.answers(x, 80, "nodes");
        ParityClauses deep = wrongAtTheBottom(11);
        CHECK.answers(deep, -1, "must", 1, 2047);
        CHECK.answers(deep, 4094, "nodes");
        CHECK.says(20, "where one more would be needed, all that were allowed);");
        CHECK.answers(x, -2, "solve", 40);
        CHECK.answers(x, 40, "nodes");
        CHECK.answers(x, -2, "solve", 1);
        CHECK.answers(x, 1, "nodes");
        CHECK.answers(x, -2, "models", 5000);
        CHECK.answers(x, 5000, "nodes");
        CHECK.answers(x, -2, "must", 40, 39);
        CHECK.answers(x, 39, "nodes");
        ParityClauses second = new ParityClauses(3);
        second.clause(1L, 0L);
        // with 0 it fails at once; with 1 it would have three nodes
        CHECK.answers(second, -2, "must", 1, 2);
        CHECK.answers(second, 3, "nodes");
        CHECK.says(20, "0 before.");
        ParityClauses none = new ParityClauses(3);
        CHECK.answers(none, 0, "nodes");
        CHECK.fails(none, ARGUMENT, "solve", 0);
        none.follow(1L, 0L, true);
        CHECK.answers(none, 0, "nodes");
    }

    private static void must() {
        CHECK.says(21, "What a variable is in all MODELS: 1 or 0,");
        ParityClauses x = new ParityClauses(3);
        x.clause(1L, 0L);
        x.equation(3L, 1);
        CHECK.answers(x, 1, "must", 1, 5000);
        CHECK.answers(x, 0, "must", 2, 5000);
        ParityClauses bySearch = new ParityClauses(4);
        // nothing follows at once: 4 is 1 whatever 1 is
        bySearch.clause(9L, 0L);
        bySearch.clause(8L, 1L);
        CHECK.answers(bySearch, 0, "follow", 0L, 0L, true);
        CHECK.answers(bySearch, 1, "must", 4, 5000);
        CHECK.says(21, "NONE, if it is 0 in some, 1 in others, or there is no MODEL:");
        CHECK.answers(x, -1, "must", 3, 5000);
        CHECK.answers(bySearch, -1, "must", 1, 5000);
        x.clause(2L, 0L);
        for (int v = 1; v <= 3; v++) {
            CHECK.answers(x, -1, "must", v, 5000);
        }
        ParityClauses impossible = new ParityClauses(1);
        impossible.equation(0L, 1);
        CHECK.answers(impossible, -1, "must", 1, 1);
        CHECK.says(21, "IllegalArgument: as solve().");
        for (int nodes : new int[] {0, -1, 5001, MIN, MAX}) {
            CHECK.refuses(x, ARGUMENT, "must", 1, nodes);
        }
        ParityClauses y = new ParityClauses(3);
        for (int variable : new int[] {0, 4, -1, 41, MIN, MAX}) {
            CHECK.refuses(y, INDEX, "must", variable, 5000);
            CHECK.fails(y, INDEX, "must", variable, 0);
        }
        CHECK.answers(y, -1, "must", 3, 5000);
        CHECK.fails(new ParityClauses(40), INDEX, "must", 41, 5000);
    }

    private static void mustSearch() {
        CHECK.says(21, "THE SEARCH with it taken for 0 in the first NODE, up to the first MODEL, then with 1, each with so many NODES at most;");
        ParityClauses x = new ParityClauses(3);
        CHECK.answers(x, -1, "must", 2, 3);
        CHECK.answers(x, 6, "nodes");
        x.clause(1L, 0L);
        CHECK.answers(x, 1, "must", 1, 3);
        CHECK.answers(x, 4, "nodes");
        // it is taken, so that the first node's all follows from it
        ParityClauses chain = new ParityClauses(5);
        for (int v = 1; v < 5; v++) {
            chain.clause(1L << v, 1L << (v - 1));
        }
        CHECK.answers(chain, -1, "must", 1, 5);
        CHECK.answers(chain, 6, "nodes");
        CHECK.answers(chain, -1, "must", 5, 5);
        CHECK.answers(chain, 6, "nodes");
        ParityClauses both = wrongAtTheBottom(12);
        CHECK.answers(both, -1, "must", 1, 4095);
        CHECK.answers(both, 8190, "nodes");
        CHECK.says(21, "MANY, if one has more.");
        CHECK.answers(both, -2, "must", 1, 4094);
        CHECK.answers(chain, -2, "must", 1, 4);
        CHECK.answers(chain, -2, "must", 5, 4);
        CHECK.answers(x, -2, "must", 1, 2);
        CHECK.answers(x, -2, "must", 2, 1);
        CHECK.answers(x, 1, "nodes");
    }

    private static void gates() {
        CHECK.says(22, "How many GATES the CLAUSES have.");
        ParityClauses x = new ParityClauses(6);
        CHECK.answers(x, 0, "gates");
        x.clause(3L, 0L);
        CHECK.answers(x, 0, "gates");
        x.push();
        x.clause(0L, 3L);
        CHECK.answers(x, 1, "gates");
        x.clause(1L, 2L);
        CHECK.answers(x, 1, "gates");
        x.clause(2L, 1L);
        CHECK.answers(x, 2, "gates");
        x.pop(1);
        CHECK.answers(x, 0, "gates");
        // equations are no clauses
        x.equation(3L, 1);
        x.equation(24L, 0);
        CHECK.answers(x, 0, "gates");
        ParityClauses most = new ParityClauses(40);
        for (int i = 0; i < 30; i++) {
            Check.addGate(most, 1L << 39 | 1L << (38 - i), i % 2);
        }
        CHECK.answers(most, 60, "count", 2);
        CHECK.answers(most, 30, "gates");
    }

    private static void gate() {
        CHECK.says(23, "GATE i: its SET, and, if its RIGHT side is 1, bit 62.");
        ParityClauses x = new ParityClauses(6);
        CHECK.fails(x, INDEX, "gate", 0);
        Check.addGate(x, 60L, 1);
        Check.addGate(x, 21L, 0);
        Check.addGate(x, 24L, 0);
        CHECK.answers(x, 21, "gate", 0);
        CHECK.answers(x, 24, "gate", 1);
        CHECK.answers(x, 60L | RIGHT, "gate", 2);
        for (int i : new int[] {3, 4, -1, 60, MIN, MAX}) {
            CHECK.refuses(x, INDEX, "gate", i);
        }
        ParityClauses most = new ParityClauses(40);
        for (int i = 0; i < 30; i++) {
            Check.addGate(most, 1L << 39 | 1L << (38 - i), i % 2);
        }
        for (int i = 0; i < 30; i++) {
            CHECK.answers(most, 1L << 39 | 1L << (9 + i) | (i % 2 == 0 ? RIGHT : 0L), "gate", i);
        }
        CHECK.fails(most, INDEX, "gate", 30);
        CHECK.fails(most, INDEX, "gate", 60);
    }

    private static void count() {
        CHECK.says(24, "n (what = 0), EQUATIONS (1), CLAUSES (2), LEVELS (3), bytes on the tape (4).");
        ParityClauses x = new ParityClauses(9);
        x.equation(1L, 0);
        x.clause(1L, 0L);
        x.clause(2L, 0L);
        x.push();
        x.push();
        x.push();
        x.feed(0L, 4);
        int[] due = {9, 1, 2, 3, 4};
        for (int what = 0; what <= 4; what++) {
            CHECK.answers(x, due[what], "count", what);
        }
        ParityClauses full = Check.filled(40, 60, 60);
        Check.feed(full, " ".repeat(500));
        for (int i = 0; i < 20; i++) {
            full.push();
        }
        int[] most = {40, 60, 60, 20, 500};
        for (int what = 0; what <= 4; what++) {
            CHECK.answers(full, most[what], "count", what);
        }
        CHECK.says(24, "IllegalArgument: another what.");
        for (int what : new int[] {5, 6, -1, MIN, MAX}) {
            CHECK.refuses(x, ARGUMENT, "count", what);
        }
    }

    private static void clear() {
        CHECK.says(25, "No EQUATIONS, CLAUSES, LEVELS;");
        ParityClauses x = Check.filled(3, 58, 58);
        for (int i = 0; i < 20; i++) {
            x.push();
        }
        x.equation(3L, 1);
        x.equation(3L, 0);
        x.clause(0L, 3L);
        x.clause(3L, 0L);
        Check.feed(x, " ".repeat(500));
        CHECK.answers(x, -1, "rows");
        CHECK.answers(x, 1, "gates");
        CHECK.due("clear()", Check.answer(x, "clear"), "void");
        CHECK.answers(x, 3, "count", 0);
        for (int what = 1; what <= 3; what++) {
            CHECK.answers(x, 0, "count", what);
        }
        CHECK.answers(x, 0, "rows");
        CHECK.answers(x, 0, "blame");
        CHECK.answers(x, 0, "gates");
        CHECK.answers(x, 8, "solutions");
        CHECK.answers(x, 8, "models", 15);
        CHECK.fails(x, INDEX, "told", 0, 0);
        CHECK.fails(x, INDEX, "told", 0, 2);
        CHECK.fails(x, ARGUMENT, "pop", 1);
        CHECK.answers(x, 0, "equation", 1L, 1);
        CHECK.answers(x, 0, "clause", 1L, 0L);
        CHECK.answers(x, 1, "push");
        CHECK.says(25, "the tape is empty.");
        CHECK.answers(x, 0, "count", 4);
        Check.feed(x, "1 a");
        x.clear();
        CHECK.answers(x, 0, "count", 4);
        CHECK.answers(x, 0, "read");
        CHECK.answers(x, 1, "feed", 32L, 1);
        x.clear();
        x.clear();
        CHECK.answers(x, 1, "feed", 32L, 1);
        clearLeavesTheLatest();
    }

    /** Of the latest solve() and read() the document says nothing else here: they are as they were. */
    private static void clearLeavesTheLatest() {
        ParityClauses x = new ParityClauses(3);
        x.equation(3L, 1);
        CHECK.answers(x, 1, "solve", 9);
        CHECK.reads(x, "1 x", -3, 1);
        x.clear();
        CHECK.answers(x, 2, "model");
        CHECK.answers(x, 3, "nodes");
        CHECK.answers(x, 1, "fault");
    }
}
