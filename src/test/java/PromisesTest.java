/** Each promise with ordinary inputs, the edges that the document names, and wrong inputs. */
public final class PromisesTest {
    private static final Check CHECK = new Check("PromisesTest");
    private static final String INDEX = "IndexOutOfBoundsException";
    private static final String ARGUMENT = "IllegalArgumentException";
    private static final String STATE = "IllegalStateException";
    private static final long RIGHT = 1L << 62;

    public static void main(String[] args) {
        newObject();
        equation();
        clause();
        feed();
        levels();
        told();
        rows();
        blame();
        solutions();
        sum();
        follow();
        solveAndModel();
        models();
        nodes();
        must();
        gates();
        gateSets();
        count();
        clear();
        CHECK.end();
    }

    private static void newObject() {
        int[][] asked = {{Integer.MIN_VALUE, 1}, {0, 1}, {1, 1}, {2, 2}, {39, 39}, {40, 40}, {41, 40}, {Integer.MAX_VALUE, 40}};
        for (int[] pair : asked) {
            ParityClauses x = new ParityClauses(pair[0]);
            CHECK.answers(x, pair[1], "count", 0);
            for (int what = 1; what <= 4; what++) {
                CHECK.answers(x, 0, "count", what);
            }
            CHECK.answers(x, 0, "rows");
            CHECK.answers(x, 1L << pair[1], "solutions");
            CHECK.answers(x, 0, "fault");
            CHECK.answers(x, 0, "nodes");
            CHECK.answers(x, -1, "model");
            CHECK.answers(x, 0, "gates");
            CHECK.answers(x, 0, "blame");
            CHECK.answers(x, 0, "pop", 0);
        }
    }

    private static void equation() {
        ParityClauses x = new ParityClauses(5);
        CHECK.answers(x, 0, "equation", 31L, 1);
        CHECK.answers(x, 1, "equation", 0L, 0);
        CHECK.fails(x, ARGUMENT, "equation", 32L, 0);
        CHECK.fails(x, ARGUMENT, "equation", -1L, 0);
        CHECK.fails(x, ARGUMENT, "equation", Long.MIN_VALUE, 0);
        CHECK.fails(x, ARGUMENT, "equation", 1L, 2);
        CHECK.fails(x, ARGUMENT, "equation", 1L, -1);
        CHECK.answers(x, 2, "count", 1);
        for (int i = 2; i < 60; i++) {
            CHECK.answers(x, i, "equation", (long) i % 32, 0);
        }
        CHECK.fails(x, STATE, "equation", 1L, 0);
        CHECK.fails(x, ARGUMENT, "equation", 1L, 2);
        CHECK.fails(x, ARGUMENT, "equation", 32L, 0);
        CHECK.answers(x, 60, "count", 1);
        CHECK.answers(x, 0, "clause", 1L, 0L);
        ParityClauses wide = new ParityClauses(40);
        CHECK.answers(wide, 0, "equation", (1L << 40) - 1, 1);
        CHECK.fails(wide, ARGUMENT, "equation", 1L << 40, 1);
        CHECK.fails(wide, ARGUMENT, "equation", RIGHT, 1);
    }

    private static void clause() {
        ParityClauses x = new ParityClauses(5);
        CHECK.answers(x, 0, "clause", 16L, 15L);
        CHECK.answers(x, 1, "clause", 0L, 0L);
        CHECK.fails(x, ARGUMENT, "clause", 32L, 0L);
        CHECK.fails(x, ARGUMENT, "clause", 0L, 32L);
        CHECK.fails(x, ARGUMENT, "clause", -1L, 0L);
        CHECK.fails(x, ARGUMENT, "clause", 3L, 6L);
        CHECK.answers(x, 2, "count", 2);
        for (int i = 2; i < 60; i++) {
            CHECK.answers(x, i, "clause", 1L, 2L);
        }
        CHECK.fails(x, STATE, "clause", 1L, 0L);
        CHECK.fails(x, ARGUMENT, "clause", 1L, 1L);
        CHECK.fails(x, ARGUMENT, "clause", 0L, 64L);
        CHECK.answers(x, 60, "count", 2);
        CHECK.answers(x, 0, "equation", 1L, 0);
    }

    private static void feed() {
        ParityClauses x = new ParityClauses(3);
        CHECK.fails(x, ARGUMENT, "feed", 0L, 0);
        CHECK.fails(x, ARGUMENT, "feed", 0L, 9);
        CHECK.fails(x, ARGUMENT, "feed", 0L, -1);
        CHECK.answers(x, 0, "count", 4);
        // "3 0" behind bytes that are not asked for
        CHECK.answers(x, 3, "feed", 0x7F7F7F7F7F332030L, 3);
        CHECK.answers(x, 3, "count", 4);
        CHECK.answers(x, 1, "read");
        CHECK.answers(x, 4, "told", 0, 2);
        // "1 -2 3 0", the highest byte first
        CHECK.answers(x, 8, "feed", 0x31202D3220332030L, 8);
        CHECK.answers(x, 1, "read");
        CHECK.answers(x, 5, "told", 1, 2);
        CHECK.answers(x, 2, "told", 1, 3);
        for (int i = 1; i <= 62; i++) {
            CHECK.answers(x, 8 * i, "feed", 0x2020202020202020L, 8);
        }
        CHECK.fails(x, STATE, "feed", 0x2020202020L, 5);
        CHECK.fails(x, ARGUMENT, "feed", 0L, 9);
        CHECK.answers(x, 496, "count", 4);
        CHECK.answers(x, 500, "feed", 0x2032200AL, 4);
        CHECK.fails(x, STATE, "feed", 0x20L, 1);
        CHECK.answers(x, -501, "read");
        CHECK.answers(x, 1, "feed", 0x20L, 1);
    }

    private static void levels() {
        ParityClauses x = new ParityClauses(4);
        CHECK.fails(x, ARGUMENT, "pop", 1);
        CHECK.fails(x, ARGUMENT, "pop", -1);
        CHECK.answers(x, 0, "equation", 3L, 1);
        CHECK.answers(x, 1, "push");
        CHECK.answers(x, 2, "push");
        CHECK.answers(x, 1, "equation", 2L, 1);
        CHECK.answers(x, 0, "clause", 4L, 8L);
        CHECK.answers(x, 3, "push");
        CHECK.answers(x, 1, "clause", 8L, 0L);
        CHECK.answers(x, 4, "pop", 0);
        CHECK.answers(x, 3, "count", 3);
        CHECK.answers(x, 3, "pop", 1);
        CHECK.answers(x, 2, "rows");
        CHECK.fails(x, ARGUMENT, "pop", 3);
        CHECK.answers(x, 1, "pop", 2);
        CHECK.answers(x, 0, "count", 3);
        CHECK.answers(x, 1, "rows");
        CHECK.answers(x, 1, "equation", 1L, 0);
        for (int i = 1; i <= 20; i++) {
            CHECK.answers(x, i, "push");
        }
        CHECK.fails(x, STATE, "push");
        CHECK.answers(x, 20, "count", 3);
        CHECK.fails(x, ARGUMENT, "pop", 21);
        CHECK.answers(x, 2, "pop", 20);
    }

    private static void told() {
        ParityClauses x = new ParityClauses(4);
        x.equation(9L, 1);
        x.equation(6L, 0);
        x.clause(5L, 8L);
        CHECK.answers(x, 9, "told", 0, 0);
        CHECK.answers(x, 1, "told", 0, 1);
        CHECK.answers(x, 6, "told", 1, 0);
        CHECK.answers(x, 0, "told", 1, 1);
        CHECK.answers(x, 5, "told", 0, 2);
        CHECK.answers(x, 8, "told", 0, 3);
        for (int what = 0; what <= 3; what++) {
            CHECK.fails(x, INDEX, "told", -1, what);
            CHECK.fails(x, INDEX, "told", what < 2 ? 2 : 1, what);
        }
        CHECK.fails(x, ARGUMENT, "told", 0, 4);
        CHECK.fails(x, ARGUMENT, "told", 0, -1);
    }

    private static void rows() {
        ParityClauses x = new ParityClauses(6);
        x.equation(7L, 1);
        x.equation(6L, 0);
        x.equation(1L, 1);
        x.equation(36L, 1);
        CHECK.answers(x, 3, "rows");
        CHECK.answers(x, 1L | RIGHT, "row", 0);
        CHECK.answers(x, 34L | RIGHT, "row", 1);
        CHECK.answers(x, 36L | RIGHT, "row", 2);
        CHECK.fails(x, INDEX, "row", 3);
        CHECK.fails(x, INDEX, "row", -1);
        x.equation(0L, 1);
        CHECK.answers(x, -1, "rows");
        CHECK.fails(x, INDEX, "row", 0);
    }

    private static void blame() {
        ParityClauses x = new ParityClauses(4);
        x.equation(1L, 0);
        x.equation(3L, 0);
        x.equation(2L, 0);
        x.equation(4L, 1);
        CHECK.answers(x, 0, "blame");
        x.push();
        // 2 is the sum of 0 and 1: of {2, 3, 4} and {0, 1, 3, 4} the second is less
        x.equation(6L, 0);
        CHECK.answers(x, -1, "rows");
        CHECK.answers(x, 0, "solutions");
        CHECK.answers(x, 27, "blame");
        x.equation(0L, 1);
        CHECK.answers(x, 27, "blame");
        x.pop(1);
        CHECK.answers(x, 0, "blame");
        x.equation(0L, 1);
        CHECK.answers(x, 16, "blame");
        ParityClauses full = new ParityClauses(40);
        for (int i = 0; i < 59; i++) {
            full.equation(i < 39 ? 3L << i : 0L, 0);
        }
        CHECK.answers(full, 0, "blame");
        full.equation(1L | 1L << 39, 1);
        CHECK.answers(full, (1L << 59) + (1L << 39) - 1, "blame");
    }

    private static void solutions() {
        ParityClauses x = new ParityClauses(3);
        long[] inOrder = {0, 4, 2, 6, 1, 5, 3, 7};
        for (int k = 0; k < 8; k++) {
            CHECK.answers(x, inOrder[k], "solution", (long) k);
        }
        CHECK.answers(x, -1, "solution", 8L);
        CHECK.answers(x, -1, "solution", -1L);
        CHECK.answers(x, -1, "solution", Long.MAX_VALUE);
        CHECK.answers(x, -1, "solution", Long.MIN_VALUE);
        // variable 1 is the head, yet it is what comes first
        x.equation(7L, 1);
        CHECK.answers(x, 4, "solutions");
        long[] odd = {4, 2, 1, 7};
        for (int k = 0; k < 4; k++) {
            CHECK.answers(x, odd[k], "solution", (long) k);
        }
        CHECK.answers(x, -1, "solution", 4L);
        ParityClauses twins = new ParityClauses(40);
        for (int v = 0; v < 20; v++) {
            twins.equation(1L << v | 1L << (v + 20), 0);
        }
        CHECK.answers(twins, 1L << 20, "solutions");
        for (long k : new long[] {0, 1, 2, 3, 12345, 987654, (1L << 20) - 1}) {
            long half = Long.reverse(k) >>> 44;
            CHECK.answers(twins, half | half << 20, "solution", k);
        }
        ParityClauses free = new ParityClauses(40);
        CHECK.answers(free, (1L << 40) - 1, "solution", (1L << 40) - 1);
        CHECK.answers(free, -1, "solution", 1L << 40);
    }

    private static void sum() {
        ParityClauses x = new ParityClauses(5);
        x.equation(3L, 1);
        x.equation(12L, 0);
        CHECK.answers(x, 0, "sum", 0L);
        CHECK.answers(x, 1, "sum", 3L);
        CHECK.answers(x, 0, "sum", 12L);
        CHECK.answers(x, 1, "sum", 15L);
        CHECK.answers(x, -1, "sum", 1L);
        CHECK.answers(x, -1, "sum", 16L);
        CHECK.answers(x, -1, "sum", 31L);
        CHECK.fails(x, ARGUMENT, "sum", 32L);
        CHECK.fails(x, ARGUMENT, "sum", -1L);
        x.equation(0L, 1);
        CHECK.answers(x, -2, "sum", 3L);
        CHECK.answers(x, -2, "sum", 0L);
        CHECK.fails(x, ARGUMENT, "sum", 32L);
    }

    private static void follow() {
        ParityClauses x = new ParityClauses(6);
        x.equation(6L, 1);
        x.equation(14L, 0);
        x.clause(16L, 1L);
        x.clause(2L, 16L);
        // 4 by the equations alone
        CHECK.answers(x, 8, "follow", 0L, 0L, true);
        CHECK.answers(x, 0, "follow", 0L, 0L, false);
        // 1, so 5, so 2, so not 3
        CHECK.answers(x, 27, "follow", 1L, 0L, true);
        CHECK.answers(x, 4, "follow", 1L, 0L, false);
        CHECK.answers(x, 12, "follow", 4L, 0L, true);
        CHECK.answers(x, 19, "follow", 4L, 0L, false);
        CHECK.answers(x, -1, "follow", 5L, 0L, true);
        CHECK.answers(x, -1, "follow", 5L, 0L, false);
        CHECK.answers(x, -1, "follow", 0L, 8L, true);
        CHECK.fails(x, ARGUMENT, "follow", 64L, 0L, true);
        CHECK.fails(x, ARGUMENT, "follow", 0L, 64L, false);
        CHECK.fails(x, ARGUMENT, "follow", 3L, 1L, false);
        x.push();
        x.clause(0L, 0L);
        CHECK.answers(x, -1, "follow", 0L, 0L, true);
        x.pop(1);
        x.equation(8L, 0);
        CHECK.answers(x, -1, "follow", 0L, 0L, true);
        followChain();
    }

    /** Each clause tells something only when one behind it has: as many rounds as there can be. */
    private static void followChain() {
        ParityClauses chain = new ParityClauses(40);
        for (int v = 39; v > 0; v--) {
            chain.clause(1L << v, 1L << (v - 1));
        }
        chain.clause(1L, 0L);
        CHECK.answers(chain, (1L << 40) - 1, "follow", 0L, 0L, true);
        CHECK.answers(chain, 1, "models", 1);
        chain.clear();
        chain.clause(0L, 1L << 39);
        for (int v = 39; v > 0; v--) {
            chain.equation(1L << v | 1L << (v - 1), 0);
            chain.clause(1L << v, 1L << (v - 1));
        }
        CHECK.answers(chain, (1L << 40) - 1, "follow", 0L, 0L, false);
        CHECK.answers(chain, -1, "follow", 1L, 0L, false);
        chain.clear();
        for (int v = 39; v > 0; v--) {
            chain.clause(1L << v, 1L << (v - 1));
        }
        chain.clause(1L, 0L);
        chain.equation(3L << 38, 1);
        CHECK.answers(chain, -1, "follow", 0L, 0L, true);
        CHECK.answers(chain, 0, "solve", 1);
    }

    private static void solveAndModel() {
        ParityClauses x = new ParityClauses(3);
        for (int nodes : new int[] {0, -1, 5001, Integer.MIN_VALUE, Integer.MAX_VALUE}) {
            CHECK.fails(x, ARGUMENT, "solve", nodes);
        }
        CHECK.answers(x, 1, "solve", 5000);
        CHECK.answers(x, 0, "model");
        x.clause(7L, 0L);
        x.clause(3L, 4L);
        // 1 = 0, in it 2 = 0 (which fails), 2 = 1, in it 3 = 0
        CHECK.answers(x, 1, "solve", 5);
        CHECK.answers(x, 2, "model");
        CHECK.fails(x, ARGUMENT, "solve", 0);
        CHECK.answers(x, 2, "model");
        CHECK.answers(x, 6, "models", 100);
        CHECK.answers(x, -1, "must", 1, 100);
        CHECK.answers(x, 2, "model");
        CHECK.answers(x, -2, "solve", 4);
        CHECK.answers(x, -1, "model");
        CHECK.answers(x, 1, "solve", 5);
        x.push();
        x.equation(0L, 1);
        CHECK.answers(x, 2, "model");
        CHECK.answers(x, 0, "solve", 1);
        CHECK.answers(x, -1, "model");
        ParityClauses one = new ParityClauses(1);
        one.equation(1L, 1);
        CHECK.answers(one, 1, "solve", 1);
        CHECK.answers(one, 1, "model");
    }

    private static void models() {
        ParityClauses x = new ParityClauses(3);
        for (int nodes : new int[] {0, -1, 5001}) {
            CHECK.fails(x, ARGUMENT, "models", nodes);
        }
        CHECK.answers(x, 8, "models", 15);
        CHECK.answers(x, -2, "models", 14);
        x.equation(3L, 1);
        CHECK.answers(x, 4, "models", 7);
        CHECK.answers(x, -2, "models", 6);
        x.clause(0L, 0L);
        CHECK.answers(x, 0, "models", 1);
    }

    private static void nodes() {
        ParityClauses x = new ParityClauses(40);
        CHECK.answers(x, 1, "solve", 41);
        CHECK.answers(x, 41, "nodes");
        CHECK.answers(x, -2, "solve", 40);
        CHECK.answers(x, 40, "nodes");
        CHECK.answers(x, -2, "models", 5000);
        CHECK.answers(x, 5000, "nodes");
        CHECK.fails(x, ARGUMENT, "models", 5001);
        CHECK.answers(x, 5000, "nodes");
        CHECK.answers(x, -1, "must", 40, 40);
        CHECK.answers(x, 80, "nodes");
        CHECK.answers(x, -2, "must", 40, 39);
        CHECK.answers(x, 39, "nodes");
        CHECK.answers(x, 0, "follow", 0L, 0L, true);
        CHECK.answers(x, 39, "nodes");
        ParityClauses small = new ParityClauses(3);
        small.clause(7L, 0L);
        small.clause(3L, 4L);
        CHECK.answers(small, 6, "models", 13);
        CHECK.answers(small, 13, "nodes");
        CHECK.answers(small, -2, "models", 12);
        CHECK.answers(small, 12, "nodes");
        CHECK.answers(small, 1, "solve", 5000);
        CHECK.answers(small, 5, "nodes");
        CHECK.answers(small, -1, "must", 1, 4);
        CHECK.answers(small, 7, "nodes");
    }

    private static void must() {
        ParityClauses x = new ParityClauses(3);
        CHECK.fails(x, INDEX, "must", 0, 0);
        CHECK.fails(x, INDEX, "must", 4, 9);
        CHECK.fails(x, INDEX, "must", -1, 9);
        CHECK.fails(x, ARGUMENT, "must", 1, 0);
        CHECK.fails(x, ARGUMENT, "must", 3, 5001);
        x.clause(1L, 0L);
        CHECK.answers(x, 1, "must", 1, 3);
        CHECK.answers(x, 4, "nodes");
        // the first look ends with one node, the second has more than two
        CHECK.answers(x, -2, "must", 1, 2);
        CHECK.answers(x, 3, "nodes");
        // the first look has more than one: there is no second
        CHECK.answers(x, -2, "must", 2, 1);
        CHECK.answers(x, 1, "nodes");
        x.equation(3L, 1);
        CHECK.answers(x, 0, "must", 2, 5000);
        CHECK.answers(x, -1, "must", 3, 5000);
        x.clause(2L, 0L);
        CHECK.answers(x, -1, "must", 1, 5000);
        CHECK.answers(x, -1, "must", 2, 5000);
        CHECK.answers(x, 2, "nodes");
    }

    private static void gates() {
        ParityClauses x = new ParityClauses(6);
        x.clause(3L, 0L);
        CHECK.answers(x, 0, "gates");
        x.push();
        x.clause(0L, 3L);
        CHECK.answers(x, 1, "gates");
        CHECK.answers(x, 3L | RIGHT, "gate", 0);
        x.clause(1L, 2L);
        x.clause(1L, 2L);
        CHECK.answers(x, 1, "gates");
        x.clause(2L, 1L);
        CHECK.answers(x, 2, "gates");
        CHECK.answers(x, 3, "gate", 0);
        CHECK.answers(x, 3L | RIGHT, "gate", 1);
        CHECK.fails(x, INDEX, "gate", 2);
        CHECK.fails(x, INDEX, "gate", -1);
        x.pop(1);
        CHECK.answers(x, 0, "gates");
        // one variable is no gate, and a clause of fewer variables is no clause of just these
        x.clause(1L, 0L);
        x.clause(0L, 1L);
        CHECK.answers(x, 0, "gates");
    }

    private static void gateSets() {
        ParityClauses x = new ParityClauses(6);
        addGate(x, 60L, 1);
        addGate(x, 21L, 0);
        addGate(x, 24L, 0);
        addGate(x, 62L, 1);
        CHECK.answers(x, 3, "gates");
        CHECK.answers(x, 21, "gate", 0);
        CHECK.answers(x, 24, "gate", 1);
        CHECK.answers(x, 60L | RIGHT, "gate", 2);
        CHECK.fails(x, INDEX, "gate", 3);
        ParityClauses missing = new ParityClauses(40);
        addGate(missing, 15L << 36, 0);
        CHECK.answers(missing, 15L << 36, "gate", 0);
        missing.clear();
        for (int i = 0; i < 30; i++) {
            addGate(missing, 1L << 39 | 1L << (38 - i), i % 2);
        }
        CHECK.answers(missing, 30, "gates");
        CHECK.answers(missing, 1L << 39 | 1L << 9 | RIGHT, "gate", 0);
        CHECK.answers(missing, 1L << 39 | 1L << 38, "gate", 29);
        CHECK.answers(missing, 0, "rows");
    }

    /** For each assignment of a set that has another sum than right, the clause that only this one makes wrong. */
    private static void addGate(ParityClauses x, long set, int right) {
        long ones = set;
        for (int turn = 0; turn < 32; turn++) {
            if (Long.bitCount(ones) % 2 != right) {
                x.clause(set & ~ones, ones);
            }
            if (ones == 0L) {
                return;
            }
            ones = (ones - 1L) & set;
        }
    }

    private static void count() {
        ParityClauses x = new ParityClauses(3);
        CHECK.fails(x, ARGUMENT, "count", 5);
        CHECK.fails(x, ARGUMENT, "count", -1);
        x.equation(1L, 0);
        x.clause(1L, 0L);
        x.clause(2L, 0L);
        x.push();
        x.push();
        x.push();
        x.feed(0L, 4);
        for (int what = 0; what <= 4; what++) {
            CHECK.answers(x, what == 0 ? 3 : what, "count", what);
        }
    }

    private static void clear() {
        ParityClauses x = new ParityClauses(3);
        x.equation(3L, 1);
        x.clause(0L, 3L);
        x.clause(3L, 0L);
        x.push();
        x.equation(4L, 1);
        CHECK.answers(x, 1, "solve", 9);
        Check.feed(x, "1 x");
        CHECK.answers(x, -3, "read");
        Check.feed(x, "1 0");
        CHECK.answers(x, 3, "count", 4);
        CHECK.answers(x, 2, "rows");
        CHECK.answers(x, 1, "gates");
        CHECK.due("clear()", Check.answer(x, "clear"), "void");
        CHECK.answers(x, 3, "count", 0);
        for (int what = 1; what <= 4; what++) {
            CHECK.answers(x, 0, "count", what);
        }
        CHECK.answers(x, 0, "rows");
        CHECK.answers(x, 0, "gates");
        CHECK.answers(x, 8, "solutions");
        CHECK.fails(x, ARGUMENT, "pop", 1);
        // of the latest solve() and read() the document says nothing else here
        CHECK.answers(x, 6, "model");
        CHECK.answers(x, 2, "nodes");
        CHECK.answers(x, 1, "fault");
        CHECK.answers(x, 0, "read");
        CHECK.answers(x, 0, "equation", 1L, 1);
    }
}
