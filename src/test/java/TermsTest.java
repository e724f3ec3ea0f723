import java.util.ArrayList;
import java.util.Collections;
import java.util.List;
import java.util.Random;

/** The sentences of the document's terms, but for LINES and FAULTS (LinesTest): a test for each. */
public final class TermsTest {
    private static final Check CHECK = new Check("TermsTest");
    private static final String INDEX = Check.INDEX;
    private static final String ARGUMENT = Check.ARGUMENT;
    private static final String STATE = Check.STATE;
    private static final long RIGHT = Check.RIGHT;
    private static final long ALL_40 = (1L << 40) - 1L;

    public static void main(String[] args) {
        variables();
        calls();
        sets();
        assignments();
        equations();
        clauses();
        numbers();
        levels();
        rows();
        rowsInOrder();
        impossible();
        blame();
        blameBySearch();
        solutions();
        models();
        followClauses();
        followEquations();
        followBoth();
        fails();
        anyOrder();
        nodes();
        nodesFail();
        branches();
        gateSizes();
        gateClauses();
        gateOrder();
        exceptions();
        CHECK.saysNoMore(Document.TERMS);
        CHECK.end();
    }

    private static void terms(String words) {
        CHECK.says(Document.TERMS, words);
    }

    private static void variables() {
        terms("1 VARIABLES 1 .. n (n 1 ..");
        terms("40) are 0 or 1.");
        for (int n : new int[] {1, 2, 8, 31, 32, 33, 39, 40}) {
            ParityClauses x = new ParityClauses(n);
            CHECK.answers(x, 1L << n, "solutions");
            CHECK.answers(x, 0, "solution", 0L);
            CHECK.answers(x, (1L << n) - 1L, "solution", (1L << n) - 1L);
            CHECK.answers(x, -1, "must", 1, n);
            CHECK.answers(x, -1, "must", n, n);
            CHECK.fails(x, INDEX, "must", 0, n);
            CHECK.fails(x, INDEX, "must", n + 1, n);
            CHECK.answers(x, -1, "sum", 1L << (n - 1));
            CHECK.fails(x, ARGUMENT, "sum", 1L << n);
            CHECK.answers(x, 1L << (n - 1), "follow", 1L << (n - 1), 0L, true);
            CHECK.fails(x, ARGUMENT, "follow", 1L << n, 0L, true);
            CHECK.answers(x, 0, "clause", 1L << (n - 1), 0L);
            CHECK.fails(x, ARGUMENT, "clause", 1L << n, 0L);
            CHECK.answers(x, 0, "equation", 1L << (n - 1), 1);
            CHECK.fails(x, ARGUMENT, "equation", 1L << n, 1);
            CHECK.reads(x, n + " 0", 1, 0);
            CHECK.reads(x, n + 1 + " 0", -1, 2);
        }
    }

    private static void calls() {
        terms("An object is used for at most 512 calls after it has been made;");
        ParityClauses x = new ParityClauses(40);
        for (int i = 0; i < 60; i++) {
            CHECK.answers(x, i, "equation", 1L << (i % 40), 0);
            CHECK.answers(x, i, "clause", 0L, 1L << (i % 40));
            CHECK.answers(x, i + 1, "feed", 32L, 1);
            CHECK.answers(x, Math.min(i + 1, 40), "rows");
            CHECK.answers(x, (1L << Math.min(i + 1, 40)) - 1L, "follow", 0L, 0L, false);
            CHECK.answers(x, i < 40 ? 1L << (39 - i) : 1L, "solutions");
            CHECK.answers(x, 0, "gates");
            CHECK.answers(x, 0, "blame");
        }
        for (int i = 1; i <= 20; i++) {
            CHECK.answers(x, i, "push");
        }
        // these are calls 501 to 512
        CHECK.answers(x, 1, "solve", 5000);
        CHECK.answers(x, 0, "model");
        CHECK.answers(x, 1, "nodes");
        CHECK.answers(x, 0, "read");
        CHECK.answers(x, 0, "fault");
        CHECK.fails(x, STATE, "push");
        CHECK.fails(x, STATE, "equation", 0L, 0);
        CHECK.answers(x, 120, "pop", 20);
        CHECK.answers(x, 0, "count", 3);
        CHECK.answers(x, 1, "models", 1);
        CHECK.answers(x, 1L << 39, "row", 39);
        CHECK.due("clear()", Check.answer(x, "clear"), "void");
        terms("what later calls answer is free.");
    }

    private static void sets() {
        terms("A SET of them is a number whose bit v - 1 is 1 for each v in it.");
        ParityClauses x = new ParityClauses(40);
        for (int v = 1; v <= 40; v++) {
            CHECK.reads(x, "x " + v + " 0 " + v + " 0", 2, 0);
            CHECK.answers(x, 1L << (v - 1), "told", v - 1, 0);
            CHECK.answers(x, 1L << (v - 1), "told", v - 1, 2);
        }
        ParityClauses y = new ParityClauses(40);
        CHECK.reads(y, "x 40 1 33 32 0", 1, 0);
        CHECK.answers(y, 1L << 39 | 1L | 1L << 32 | 1L << 31, "told", 0, 0);
        y.equation(1L << 39, 1);
        CHECK.answers(y, 1, "must", 40, 5000);
        CHECK.answers(y, -1, "must", 39, 5000);
    }

    private static void assignments() {
        terms("An ASSIGNMENT is told likewise, by those that are 1;");
        ParityClauses x = new ParityClauses(40);
        x.equation(1L, 1);
        x.equation(1L << 39, 1);
        x.equation(2L, 0);
        CHECK.answers(x, 1L | 1L << 39, "solution", 0L);
        CHECK.answers(x, 1, "solve", 5000);
        CHECK.answers(x, 1L | 1L << 39, "model");
        terms("it COMES BEFORE another one if, at the least variable where they differ, it has 0.");
        CHECK.answers(x, 1L | 3L << 38, "solution", 1L);
        CHECK.answers(x, ALL_40 - 2L, "solution", (1L << 37) - 1L);
        ParityClauses three = new ParityClauses(3);
        long[] inOrder = {0, 4, 2, 6, 1, 5, 3, 7};
        for (int k = 0; k < 8; k++) {
            CHECK.answers(three, inOrder[k], "solution", (long) k);
        }
    }

    private static void equations() {
        terms("An EQUATION is a SET and a RIGHT side, 0 or 1: so many of its variables are 1 that this is their number modulo 2.");
        ParityClauses x = new ParityClauses(3);
        x.equation(7L, 1);
        long[] odd = {4, 2, 1, 7};
        ParityClauses y = new ParityClauses(3);
        y.equation(7L, 0);
        long[] even = {0, 6, 5, 3};
        for (int k = 0; k < 4; k++) {
            CHECK.answers(x, odd[k], "solution", (long) k);
            CHECK.answers(y, even[k], "solution", (long) k);
        }
        // no variables have the sum 0
        ParityClauses z = new ParityClauses(3);
        z.equation(0L, 0);
        CHECK.answers(z, 8, "solutions");
        z.equation(0L, 1);
        CHECK.answers(z, 0, "solutions");
    }

    private static void clauses() {
        terms("A CLAUSE has two SETS, with no variable in both: one of the first one's is 1, or one of the second one's is 0.");
        long[][] sets = {{7, 0}, {0, 7}, {5, 2}, {1, 0}, {0, 4}};
        for (long[] clause : sets) {
            ParityClauses x = new ParityClauses(3);
            x.clause(clause[0], clause[1]);
            for (long ones = 0; ones < 8; ones++) {
                boolean right = (ones & clause[0]) != 0 || (~ones & clause[1]) != 0;
                CHECK.answers(x, right ? ones : -1, "follow", ones, 7L - ones, true);
            }
        }
        ParityClauses x = new ParityClauses(3);
        x.clause(5L, 2L);
        CHECK.answers(x, 7, "models", 5000);
        CHECK.fails(x, ARGUMENT, "clause", 5L, 4L);
        // with no variables none of them is
        x.clause(0L, 0L);
        CHECK.answers(x, 0, "models", 1);
    }

    private static void numbers() {
        terms("Both are numbered as they come, 60 of each at most.");
        ParityClauses x = new ParityClauses(6);
        for (int i = 0; i < 30; i++) {
            CHECK.answers(x, 2 * i, "equation", (long) i, 0);
            CHECK.answers(x, 2 * i, "clause", (long) i, 0L);
            CHECK.reads(x, "x 6 0 6 0", 2, 0);
        }
        CHECK.answers(x, 29, "told", 58, 0);
        CHECK.answers(x, 29, "told", 58, 2);
        CHECK.answers(x, 32, "told", 59, 0);
        CHECK.answers(x, 32, "told", 59, 2);
        CHECK.fails(x, STATE, "equation", 1L, 0);
        CHECK.fails(x, STATE, "clause", 1L, 0L);
        CHECK.reads(x, "1 0", -3, 3);
        CHECK.reads(x, "x 1 0", -5, 3);
        CHECK.answers(x, 60, "count", 1);
        CHECK.answers(x, 60, "count", 2);
    }

    private static void levels() {
        terms("LEVELS, 20 at most, are places behind so many of both.");
        ParityClauses x = new ParityClauses(6);
        for (int i = 1; i <= 20; i++) {
            x.clause(1L, 2L);
            CHECK.answers(x, i, "push");
            x.equation(1L, 0);
            x.equation(2L, 0);
        }
        CHECK.refuses(x, STATE, "push");
        for (int i = 19; i >= 0; i--) {
            CHECK.answers(x, 3 * i + 1, "pop", 1);
            CHECK.answers(x, 2 * i, "count", 1);
            CHECK.answers(x, i + 1, "count", 2);
        }
        // a place behind none, and several levels at one place
        ParityClauses y = new ParityClauses(6);
        y.push();
        y.push();
        y.equation(1L, 0);
        CHECK.answers(y, 0, "pop", 1);
        y.equation(1L, 0);
        CHECK.answers(y, 0, "pop", 1);
    }

    private static void rowsAre(ParityClauses x, long... due) {
        CHECK.answers(x, due.length, "rows");
        for (int i = 0; i < due.length; i++) {
            CHECK.answers(x, due[i], "row", i);
        }
        CHECK.fails(x, INDEX, "row", due.length);
    }

    private static void rows() {
        terms("==== 2 EQUATIONS. THE ROWS are the one form of all EQUATIONS that are there");
        ParityClauses x = new ParityClauses(4);
        x.equation(3L, 1);
        x.equation(6L, 0);
        ParityClauses y = new ParityClauses(4);
        y.equation(6L, 0);
        y.equation(5L, 1);
        y.equation(3L, 1);
        rowsAre(x, 5L | RIGHT, 6L);
        rowsAre(y, 5L | RIGHT, 6L);
        x.push();
        x.equation(4L, 1);
        rowsAre(x, 1L, 2L | RIGHT, 4L | RIGHT);
        x.pop(1);
        rowsAre(x, 5L | RIGHT, 6L);
        terms("(and of what is taken for 1 or 0 besides):");
        CHECK.answers(x, 6, "follow", 4L, 0L, true);
        CHECK.answers(x, 1, "follow", 0L, 4L, true);
        CHECK.answers(x, 6, "follow", 0L, 4L, false);
        // that is not kept
        rowsAre(x, 5L | RIGHT, 6L);
        terms("each is a sum of some;");
        ParityClauses z = new ParityClauses(4);
        z.equation(7L, 1);
        z.equation(7L, 1);
        rowsAre(z, 7L | RIGHT);
        z.equation(14L, 1);
        rowsAre(z, 9L, 14L | RIGHT);
    }

    private static void rowsInOrder() {
        terms("the least variable of each, its HEAD, is in no other one;");
        ParityClauses x = new ParityClauses(4);
        x.equation(15L, 0);
        rowsAre(x, 15L);
        x.equation(14L, 1);
        rowsAre(x, 1L | RIGHT, 14L | RIGHT);
        x.equation(12L, 1);
        rowsAre(x, 1L | RIGHT, 2L, 12L | RIGHT);
        x.equation(8L, 1);
        rowsAre(x, 1L | RIGHT, 2L, 4L, 8L | RIGHT);
        terms("by their HEADS;");
        ParityClauses y = new ParityClauses(40);
        y.equation(1L << 39, 1);
        y.equation(1L << 38 | 1L << 39, 0);
        y.equation(3L << 20, 1);
        y.equation(1L, 0);
        rowsAre(y, 1L, 3L << 20 | RIGHT, 1L << 38 | RIGHT, 1L << 39 | RIGHT);
        terms("none is without variables.");
        ParityClauses z = new ParityClauses(4);
        z.equation(0L, 0);
        rowsAre(z);
        z.equation(9L, 1);
        z.equation(9L, 1);
        z.equation(0L, 0);
        rowsAre(z, 9L | RIGHT);
    }

    private static void impossible() {
        terms("If some have no variables, and RIGHT 1 (a sum that can't be), they are IMPOSSIBLE: there are no ROWS then.");
        ParityClauses x = new ParityClauses(4);
        x.equation(3L, 1);
        x.equation(6L, 1);
        x.push();
        x.equation(5L, 1);
        CHECK.answers(x, -1, "rows");
        CHECK.fails(x, INDEX, "row", 0);
        CHECK.fails(x, INDEX, "row", -1);
        CHECK.answers(x, 0, "solutions");
        CHECK.answers(x, -1, "follow", 0L, 0L, true);
        CHECK.answers(x, 0, "solve", 1);
        // what comes later does not make it possible
        x.equation(8L, 1);
        CHECK.answers(x, -1, "rows");
        CHECK.fails(x, INDEX, "row", 0);
        x.pop(1);
        rowsAre(x, 5L, 6L | RIGHT);
        x.equation(5L, 0);
        rowsAre(x, 5L, 6L | RIGHT);
        // clauses that can't be right together make no sum that can't be
        x.clause(0L, 0L);
        rowsAre(x, 5L, 6L | RIGHT);
    }

    private static void blame() {
        terms("THE SUM OF BLAME is, if they are IMPOSSIBLE, a set of EQUATIONS (bit i for number i) whose sum has no variables and RIGHT 1,");
        ParityClauses x = new ParityClauses(4);
        x.equation(8L, 0);
        x.equation(3L, 1);
        x.equation(6L, 1);
        CHECK.answers(x, 0, "blame");
        x.equation(5L, 1);
        CHECK.answers(x, 14, "blame");
        terms("of all such sets the least number.");
        // number 2 is the sum of 0 and 1: of {2, 3, 4} and {0, 1, 3, 4} the second is less
        ParityClauses y = new ParityClauses(4);
        y.equation(1L, 0);
        y.equation(3L, 0);
        y.equation(2L, 0);
        y.equation(4L, 1);
        y.push();
        y.equation(6L, 0);
        CHECK.answers(y, 27, "blame");
        y.equation(0L, 1);
        CHECK.answers(y, 27, "blame");
        y.pop(1);
        y.equation(0L, 1);
        CHECK.answers(y, 16, "blame");
        // twice the same: the first is in it
        ParityClauses z = new ParityClauses(4);
        z.equation(3L, 1);
        z.equation(3L, 1);
        z.equation(3L, 0);
        z.equation(3L, 0);
        CHECK.answers(z, 5, "blame");
        // few variables of a late one do not count, but its number
        ParityClauses late = new ParityClauses(40);
        for (int v = 0; v < 39; v++) {
            late.equation(3L << v, 1);
        }
        late.equation(1L | 1L << 39, 0);
        late.equation(0L, 1);
        CHECK.answers(late, (1L << 40) - 1L, "blame");
    }

    /** All sets of equations are gone through. */
    private static void blameBySearch() {
        Random random = new Random(12);
        for (int turn = 0; turn < 300; turn++) {
            ParityClauses x = new ParityClauses(4);
            long[] told = new long[9];
            for (int i = 0; i < told.length; i++) {
                told[i] = random.nextInt(16) | random.nextInt(2) * RIGHT;
                x.equation(told[i] & ~RIGHT, (int) (told[i] >>> 62));
            }
            int least = 0;
            for (int set = 1; set < 1 << told.length && least == 0; set++) {
                long sum = 0L;
                for (int i = 0; i < told.length; i++) {
                    sum ^= (set >> i & 1) == 1 ? told[i] : 0L;
                }
                least = sum == RIGHT ? set : 0;
            }
            CHECK.answers(x, least, "blame");
        }
    }

    private static void solutions() {
        terms("SOLUTIONS are the ASSIGNMENTS with which all EQUATIONS are right:");
        ParityClauses x = new ParityClauses(4);
        x.equation(3L, 1);
        x.equation(10L, 0);
        CHECK.answers(x, 4, "solutions");
        terms("they are numbered from 0 on as they come before one another.");
        long[] due = {10, 14, 1, 5};
        for (int k = 0; k < 4; k++) {
            CHECK.answers(x, due[k], "solution", (long) k);
        }
        CHECK.answers(x, -1, "solution", -1L);
        CHECK.answers(x, -1, "solution", 4L);
        // a variable that is not the head comes first, if it is less than another one's head
        ParityClauses y = new ParityClauses(4);
        y.equation(9L, 1);
        y.equation(4L, 1);
        long[] inOrder = {12, 14, 5, 7};
        for (int k = 0; k < 4; k++) {
            CHECK.answers(y, inOrder[k], "solution", (long) k);
        }
    }

    private static void models() {
        terms("==== 3 MODELS are SOLUTIONS with which all CLAUSES are right, too.");
        ParityClauses x = new ParityClauses(4);
        CHECK.answers(x, 16, "models", 31);
        x.equation(3L, 1);
        x.equation(10L, 0);
        CHECK.answers(x, 4, "models", 7);
        x.clause(4L, 8L);
        CHECK.answers(x, 3, "models", 5);
        CHECK.answers(x, 1, "solve", 3);
        CHECK.answers(x, 14, "model");
        x.clause(8L, 0L);
        CHECK.answers(x, 1, "models", 1);
        x.clause(1L, 0L);
        CHECK.answers(x, 0, "models", 1);
        CHECK.answers(x, 4, "solutions");
    }

    private static void follows(ParityClauses x, long yes, long no, long ones, long zeros) {
        CHECK.answers(x, ones, "follow", yes, no, true);
        CHECK.answers(x, zeros, "follow", yes, no, false);
    }

    private static void followClauses() {
        terms("TO FOLLOW from some variables that are taken for 0 or 1: as long as one of these tells something more:");
        // each clause tells something only when one behind it has: as many rounds as there can be
        ParityClauses chain = new ParityClauses(40);
        for (int v = 39; v > 0; v--) {
            chain.clause(1L << v, 1L << (v - 1));
        }
        follows(chain, 0L, 0L, 0L, 0L);
        follows(chain, 1L, 0L, ALL_40, 0L);
        follows(chain, 1L << 20, 0L, ALL_40 >> 20 << 20, 0L);
        follows(chain, 0L, 1L << 20, 0L, (1L << 21) - 1L);
        follows(chain, 0L, 1L << 39, 0L, ALL_40);
        terms("a CLAUSE all of whose variables but one are taken, so that it is not right by these: that one is taken so that it is;");
        ParityClauses x = new ParityClauses(5);
        x.clause(3L, 12L);
        follows(x, 0L, 0L, 0L, 0L);
        follows(x, 4L, 1L, 4L, 1L);
        follows(x, 12L, 1L, 14L, 1L);
        follows(x, 12L, 2L, 13L, 2L);
        follows(x, 4L, 3L, 4L, 11L);
        follows(x, 8L, 3L, 8L, 7L);
        // it is right by these
        follows(x, 13L, 0L, 13L, 0L);
        follows(x, 8L, 5L, 8L, 5L);
        // one variable alone
        ParityClauses one = new ParityClauses(5);
        one.clause(16L, 0L);
        one.clause(0L, 8L);
        follows(one, 0L, 0L, 16L, 8L);
    }

    private static void followEquations() {
        terms("the EQUATIONS, with what is taken, have just one value for a variable in all their SOLUTIONS: that is taken.");
        ParityClauses x = new ParityClauses(5);
        x.equation(7L, 1);
        follows(x, 0L, 0L, 0L, 0L);
        follows(x, 1L, 0L, 1L, 0L);
        follows(x, 1L, 2L, 1L, 6L);
        follows(x, 3L, 0L, 7L, 0L);
        follows(x, 0L, 6L, 1L, 6L);
        // none of them alone has one value, but their sum
        x.equation(11L, 0);
        x.equation(28L, 1);
        follows(x, 0L, 0L, 0L, 16L);
        follows(x, 4L, 0L, 4L, 24L);
        follows(x, 0L, 4L, 8L, 20L);
        ParityClauses chain = new ParityClauses(40);
        for (int v = 39; v > 0; v--) {
            chain.equation(3L << (v - 1), 1);
        }
        long everyOther = 0x5555555555L;
        follows(chain, 1L, 0L, everyOther, everyOther << 1);
        follows(chain, 0L, 1L << 20, everyOther << 1, everyOther);
    }

    private static void followBoth() {
        // equations, then a clause, then equations, then a clause
        ParityClauses x = new ParityClauses(8);
        x.clause(128L, 64L);
        x.equation(112L, 0);
        x.clause(16L, 12L);
        x.equation(7L, 0);
        x.equation(12L, 0);
        follows(x, 1L, 2L, 1L | 4L | 8L | 16L, 2L);
        follows(x, 1L, 34L, 1L | 4L | 8L | 16L | 64L | 128L, 34L);
    }

    private static void failing(ParityClauses x, long yes, long no) {
        follows(x, yes, no, -1L, -1L);
    }

    private static void fails() {
        terms("It FAILS, if a CLAUSE is not right by what is taken,");
        ParityClauses x = new ParityClauses(5);
        x.clause(3L, 4L);
        failing(x, 4L, 3L);
        failing(x, 28L, 3L);
        follows(x, 7L, 0L, 7L, 0L);
        x.clause(1L, 2L);
        x.clause(0L, 1L);
        // 1 is not, so 2 is not, so 3 can't be
        failing(x, 4L, 0L);
        follows(x, 0L, 4L, 0L, 7L);
        ParityClauses empty = new ParityClauses(5);
        empty.clause(0L, 0L);
        failing(empty, 0L, 0L);
        failing(empty, 31L, 0L);
        ParityClauses last = Check.filled(5, 0, 59);
        last.clause(0L, 16L);
        failing(last, 16L, 0L);
        terms("or the EQUATIONS with it are IMPOSSIBLE.");
        ParityClauses y = new ParityClauses(5);
        y.equation(7L, 1);
        failing(y, 3L, 4L);
        failing(y, 0L, 7L);
        follows(y, 7L, 0L, 7L, 0L);
        y.clause(2L, 1L);
        y.clause(0L, 5L);
        failing(y, 1L, 0L);
        ParityClauses impossible = new ParityClauses(5);
        impossible.equation(0L, 1);
        failing(impossible, 0L, 0L);
        failing(impossible, 31L, 0L);
        // what was taken last, by the last clause, is looked at too
        ParityClauses end = new ParityClauses(40);
        for (int v = 39; v > 0; v--) {
            end.clause(1L << v, 1L << (v - 1));
        }
        end.clause(1L, 0L);
        end.push();
        end.equation(3L << 38, 1);
        failing(end, 0L, 0L);
        end.pop(1);
        end.equation(1L << 39 | 1L, 1);
        failing(end, 0L, 0L);
    }

    private static void anyOrder() {
        terms("(What follows, and whether it FAILS, is one, whatever the order.)");
        // {variables, right}, or {first set, second set, 0}
        List<long[]> told = new ArrayList<>(List.of(new long[] {7, 0}, new long[] {24, 1}, new long[] {96, 0}, new long[] {8, 1, 0},
            new long[] {32, 16, 0}, new long[] {2, 64, 0}, new long[] {0, 12, 0}));
        Random random = new Random(3);
        for (int turn = 0; turn < 60; turn++) {
            Collections.shuffle(told, random);
            ParityClauses x = new ParityClauses(7);
            for (long[] one : told) {
                if (one.length == 2) {
                    x.equation(one[0], (int) one[1]);
                } else {
                    x.clause(one[0], one[1]);
                }
            }
            // 1, so 4, so not 3 and not 5, so 2
            follows(x, 1L, 0L, 11L, 20L);
            // 5, so 6 and not 4, so 7 and not 1, so 2, so 3
            follows(x, 16L, 0L, 118L, 9L);
            failing(x, 5L, 0L);
            failing(x, 17L, 0L);
        }
    }

    private static void nodes() {
        terms("THE SEARCH is NODES in one another; the first one takes nothing.");
        ParityClauses x = new ParityClauses(3);
        x.equation(1L, 1);
        x.equation(6L, 1);
        x.clause(4L, 0L);
        // all follows from nothing: the first node is all
        CHECK.answers(x, 1, "solve", 1);
        CHECK.answers(x, 5, "model");
        CHECK.answers(x, 1, "nodes");
        CHECK.answers(x, 1, "models", 1);
        CHECK.answers(x, 1, "nodes");
        ParityClauses free = new ParityClauses(4);
        CHECK.answers(free, 16, "models", 31);
        CHECK.answers(free, 31, "nodes");
        CHECK.answers(free, 1, "solve", 5);
        CHECK.answers(free, 5, "nodes");
        ParityClauses deep = new ParityClauses(40);
        CHECK.answers(deep, 1, "solve", 41);
        CHECK.answers(deep, 41, "nodes");
        terms("At a NODE all follows;");
        ParityClauses chain = new ParityClauses(40);
        for (int v = 0; v < 39; v++) {
            chain.clause(1L << v, 1L << (v + 1));
        }
        CHECK.answers(chain, 2 + 39, "models", 5000);
        CHECK.answers(chain, 81, "nodes");
        CHECK.answers(chain, 1, "solve", 2);
        CHECK.answers(chain, 0, "model");
    }

    private static void nodesFail() {
        terms("if it FAILS, it is left;");
        ParityClauses x = new ParityClauses(3);
        x.clause(0L, 0L);
        CHECK.answers(x, 0, "models", 1);
        CHECK.answers(x, 1, "nodes");
        x.clear();
        x.clause(3L, 0L);
        x.clause(1L, 2L);
        // 1 = 0 fails, in 1 = 1 there is all
        CHECK.answers(x, 4, "models", 9);
        CHECK.answers(x, 9, "nodes");
        CHECK.answers(x, 1, "solve", 5);
        CHECK.answers(x, 1, "model");
        CHECK.answers(x, 5, "nodes");
        // with 1 = 0 two clauses together make a sum that can't be; with 1 = 1 there is none
        ParityClauses sums = new ParityClauses(3);
        sums.equation(6L, 1);
        sums.clause(3L, 0L);
        sums.clause(5L, 0L);
        CHECK.answers(sums, 2, "models", 5);
        CHECK.answers(sums, 5, "nodes");
        CHECK.answers(sums, 1, "solve", 4);
        CHECK.answers(sums, 5, "model");
        CHECK.answers(sums, 1, "must", 1, 2);
        CHECK.answers(sums, 3, "nodes");
        terms("if all variables are taken, it is a MODEL;");
        x.clause(2L, 0L);
        x.clause(4L, 1L);
        CHECK.answers(x, 1, "models", 1);
        CHECK.answers(x, 1, "nodes");
        CHECK.answers(x, 1, "solve", 1);
        CHECK.answers(x, 7, "model");
        // that all clauses are right is not enough
        ParityClauses one = new ParityClauses(1);
        CHECK.answers(one, 2, "models", 3);
        CHECK.answers(one, 1, "solve", 2);
        CHECK.answers(one, 2, "nodes");
    }

    private static void branches() {
        terms("else the least variable that is not taken is taken for 0 in one more NODE, then for 1 in another one,");
        ParityClauses x = new ParityClauses(3);
        x.clause(1L, 2L);
        x.clause(1L, 4L);
        CHECK.answers(x, 5, "models", 9);
        CHECK.answers(x, 9, "nodes");
        CHECK.answers(x, 1, "solve", 2);
        CHECK.answers(x, 0, "model");
        CHECK.answers(x, 2, "nodes");
        // 1 is not taken for it follows, so 2 is the least
        ParityClauses y = new ParityClauses(4);
        y.equation(1L, 1);
        y.clause(2L, 12L);
        CHECK.answers(y, 1, "solve", 4);
        CHECK.answers(y, 1, "model");
        CHECK.answers(y, 4, "nodes");
        CHECK.answers(y, 7, "models", 13);
        CHECK.answers(y, 13, "nodes");
        ParityClauses z = new ParityClauses(3);
        z.equation(7L, 1);
        CHECK.answers(z, 1, "solve", 3);
        CHECK.answers(z, 4, "model");
        terms("each with all that is within it.");
        // all within 1 = 0 fails before 1 is taken for 1
        ParityClauses late = new ParityClauses(5);
        late.clause(25L, 0L);
        late.clause(17L, 8L);
        late.clause(9L, 16L);
        late.clause(1L, 24L);
        CHECK.answers(late, 1, "solve", 21);
        CHECK.answers(late, 1, "model");
        CHECK.answers(late, 21, "nodes");
        CHECK.answers(late, -2, "solve", 20);
        CHECK.answers(late, 16, "models", 47);
        CHECK.answers(late, 47, "nodes");
        CHECK.answers(late, -2, "models", 46);
    }

    private static void gateSizes() {
        terms("GATES: of SETS of two to four variables,");
        long[] sets = {1, 3, 7, 15, 31};
        int[] due = {0, 1, 1, 1, 0};
        for (int right = 0; right <= 1; right++) {
            for (int i = 0; i < sets.length; i++) {
                ParityClauses x = new ParityClauses(5);
                Check.addGate(x, sets[i], right);
                CHECK.answers(x, due[i], "gates");
                if (due[i] == 1) {
                    CHECK.answers(x, sets[i] | right * RIGHT, "gate", 0);
                }
            }
        }
        ParityClauses none = new ParityClauses(5);
        none.clause(0L, 0L);
        none.clause(0L, 0L);
        CHECK.answers(none, 0, "gates");
        ParityClauses high = new ParityClauses(40);
        Check.addGate(high, 15L << 36, 1);
        CHECK.answers(high, 15L << 36 | RIGHT, "gate", 0);
    }

    private static void gateClauses() {
        terms("each such that for some RIGHT side r, whatever ASSIGNMENT of its variables has another sum than r, there is a CLAUSE,");
        for (long set : new long[] {3, 13, 45}) {
            for (int right = 0; right <= 1; right++) {
                ParityClauses all = new ParityClauses(6);
                Check.addGate(all, set, right);
                int clauses = all.count(2);
                CHECK.due("clauses of a gate of " + set, clauses, 1 << (Long.bitCount(set) - 1));
                CHECK.answers(all, 1, "gates");
                for (int left = 0; left < clauses; left++) {
                    ParityClauses lacks = allBut(all, left);
                    CHECK.answers(lacks, 0, "gates");
                    lacks.clause(all.told(left, 2), all.told(left, 3));
                    CHECK.answers(lacks, 1, "gates");
                    CHECK.answers(lacks, set | right * RIGHT, "gate", 0);
                }
            }
        }
        terms("as it was told, of just these variables, that only this one makes wrong.");
        ParityClauses x = new ParityClauses(6);
        // a shorter clause says more, but is none of just these
        x.clause(3L, 0L);
        x.clause(0L, 1L);
        x.clause(0L, 2L);
        CHECK.answers(x, 0, "gates");
        x.clause(0L, 7L);
        CHECK.answers(x, 0, "gates");
        x.clause(0L, 3L);
        CHECK.answers(x, 1, "gates");
        // an equation takes nothing out of the clauses
        ParityClauses y = new ParityClauses(6);
        y.clause(7L, 0L);
        y.clause(4L, 3L);
        y.equation(4L, 0);
        CHECK.answers(y, 0, "gates");
        Check.addGate(y, 48L, 0);
        y.equation(16L, 1);
        y.equation(0L, 1);
        CHECK.answers(y, 1, "gates");
        CHECK.answers(y, 48, "gate", 0);
        // those of one set alone count together
        ParityClauses z = new ParityClauses(6);
        z.clause(3L, 0L);
        z.clause(0L, 6L);
        CHECK.answers(z, 0, "gates");
    }

    private static ParityClauses allBut(ParityClauses x, int left) {
        ParityClauses fewer = new ParityClauses(x.count(0));
        for (int i = 0; i < x.count(2); i++) {
            if (i != left) {
                fewer.clause(x.told(i, 2), x.told(i, 3));
            }
        }
        return fewer;
    }

    private static void gateOrder() {
        terms("They are told by their SETS, the least number first (of one SET with r = 0 before 1).");
        ParityClauses x = new ParityClauses(40);
        Check.addGate(x, 1L << 39 | 1L, 0);
        Check.addGate(x, 15L, 1);
        Check.addGate(x, 6L, 1);
        Check.addGate(x, 7L, 0);
        Check.addGate(x, 6L, 0);
        Check.addGate(x, 1L << 31 | 1L, 1);
        Check.addGate(x, 1L << 32 | 1L, 1);
        // twice is once
        Check.addGate(x, 7L, 0);
        long[] due = {6L, 6L | RIGHT, 7L, 15L | RIGHT, 1L << 31 | 1L | RIGHT, 1L << 32 | 1L | RIGHT, 1L << 39 | 1L};
        CHECK.answers(x, due.length, "gates");
        for (int i = 0; i < due.length; i++) {
            CHECK.answers(x, due[i], "gate", i);
        }
        CHECK.fails(x, INDEX, "gate", due.length);
        ParityClauses both = new ParityClauses(4);
        Check.addGate(both, 15L, 1);
        Check.addGate(both, 15L, 0);
        CHECK.answers(both, 2, "gates");
        CHECK.answers(both, 15L, "gate", 0);
        CHECK.answers(both, 15L | RIGHT, "gate", 1);
    }

    private static void exceptions() {
        terms("IndexOutOfBounds: there is no such row, equation, clause, gate, variable.");
        ParityClauses x = new ParityClauses(2);
        x.equation(1L, 1);
        Check.addGate(x, 3L, 1);
        for (int i : new int[] {-1, 2, Check.MIN, Check.MAX}) {
            CHECK.fails(x, INDEX, "row", i);
            CHECK.fails(x, INDEX, "told", i, 0);
            CHECK.fails(x, INDEX, "told", i, 2);
            CHECK.fails(x, INDEX, "gate", i);
            CHECK.fails(x, INDEX, "must", i == 2 ? 3 : i, 1);
        }
        CHECK.fails(x, INDEX, "row", 1);
        CHECK.fails(x, INDEX, "told", 1, 0);
        CHECK.fails(x, INDEX, "gate", 1);
        CHECK.fails(x, INDEX, "must", 0, 1);
        terms("IllegalArgument: another number is none told.");
        for (int other : new int[] {-1, 5001, Check.MIN, Check.MAX}) {
            CHECK.fails(x, ARGUMENT, "equation", 1L, other);
            CHECK.fails(x, ARGUMENT, "feed", 1L, other);
            CHECK.fails(x, ARGUMENT, "pop", other);
            CHECK.fails(x, ARGUMENT, "told", 0, other);
            CHECK.fails(x, ARGUMENT, "solve", other);
            CHECK.fails(x, ARGUMENT, "models", other);
            CHECK.fails(x, ARGUMENT, "must", 1, other);
            CHECK.fails(x, ARGUMENT, "count", other);
        }
        terms("IllegalState: as told.");
        ParityClauses full = Check.filled(2, 60, 60);
        for (int i = 0; i < 20; i++) {
            full.push();
        }
        Check.feed(full, " ".repeat(500));
        CHECK.fails(full, STATE, "equation", 1L, 1);
        CHECK.fails(full, STATE, "clause", 1L, 2L);
        CHECK.fails(full, STATE, "push");
        CHECK.fails(full, STATE, "feed", 32L, 1);
        terms("Of several the first in this order.");
        CHECK.fails(full, ARGUMENT, "equation", 4L, 1);
        CHECK.fails(full, ARGUMENT, "equation", 1L, 2);
        CHECK.fails(full, ARGUMENT, "clause", 4L, 0L);
        CHECK.fails(full, ARGUMENT, "clause", 1L, 1L);
        CHECK.fails(full, ARGUMENT, "feed", 32L, 9);
        CHECK.fails(full, ARGUMENT, "feed", 32L, 0);
        CHECK.fails(full, INDEX, "must", 0, 0);
        CHECK.fails(full, INDEX, "must", 3, 5001);
        CHECK.fails(full, INDEX, "must", -1, -1);
    }
}
