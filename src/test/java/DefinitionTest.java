import java.util.ArrayList;
import java.util.List;
import java.util.Random;

/** For few variables, what the document defines is looked for among all sums, all sets and all assignments. */
public final class DefinitionTest {
    private static final Check CHECK = new Check("DefinitionTest");
    private static final long RIGHT = 1L << 62;

    private final Random random;
    private final int n;
    private final ParityClauses x;
    private final List<long[]> equations = new ArrayList<>();
    private final List<long[]> clauses = new ArrayList<>();
    private final List<Long> solutions = new ArrayList<>();

    private DefinitionTest(int seed) {
        random = new Random(seed);
        n = 1 + seed % 6;
        x = new ParityClauses(n);
    }

    public static void main(String[] args) {
        for (int seed = 0; seed < 1200; seed++) {
            DefinitionTest test = new DefinitionTest(seed);
            test.fill();
            test.sums();
            test.solutions();
            test.following();
            test.models();
        }
        CHECK.end();
    }

    private void fill() {
        for (int i = random.nextInt(9); i > 0; i--) {
            long[] equation = {random.nextInt(1 << n), random.nextInt(2)};
            equations.add(equation);
            x.equation(equation[0], (int) equation[1]);
        }
        for (int i = random.nextInt(7); i > 0; i--) {
            long yes = random.nextInt(1 << n);
            long[] clause = {yes, random.nextInt(1 << n) & ~yes};
            clauses.add(clause);
            x.clause(clause[0], clause[1]);
        }
        for (long k = 0; k < 1 << n; k++) {
            long ones = Long.reverse(k) >>> 64 - n;
            if (equations.stream().allMatch(e -> Long.bitCount(e[0] & ones) % 2 == e[1])) {
                solutions.add(ones);
            }
        }
    }

    /** Goes through all sets of equations: rows and the sum of blame. */
    private void sums() {
        long blame = 0;
        List<Long> sums = new ArrayList<>();
        for (int set = 0; set < 1 << equations.size(); set++) {
            long sum = 0;
            for (int i = 0; i < equations.size(); i++) {
                sum ^= (set >> i & 1) == 0 ? 0 : equations.get(i)[0] | equations.get(i)[1] * RIGHT;
            }
            sums.add(sum);
            blame = sum == RIGHT && blame == 0 ? set : blame;
        }
        CHECK.answers(x, blame, "blame");
        long heads = 0;
        for (long sum : sums) {
            heads |= Long.lowestOneBit(sum & ~RIGHT);
        }
        CHECK.answers(x, blame != 0 ? -1 : Long.bitCount(heads), "rows");
        if (blame != 0) {
            CHECK.fails(x, "IndexOutOfBoundsException", "row", 0);
            return;
        }
        int i = 0;
        for (int v = 0; v < n; v++) {
            long head = 1L << v;
            long all = heads;
            if ((heads & head) != 0) {
                long row = sums.stream().filter(s -> (s & all) == head && Long.lowestOneBit(s) == head).findFirst().orElseThrow();
                CHECK.answers(x, row, "row", i++);
            }
        }
        CHECK.fails(x, "IndexOutOfBoundsException", "row", i);
    }

    private void solutions() {
        CHECK.answers(x, solutions.size(), "solutions");
        for (int k = 0; k < solutions.size(); k++) {
            CHECK.answers(x, solutions.get(k), "solution", (long) k);
        }
        CHECK.answers(x, -1, "solution", (long) solutions.size());
        for (long set = 0; set < 1 << n; set++) {
            long s = set;
            long odd = solutions.stream().filter(a -> Long.bitCount(a & s) % 2 == 1).count();
            CHECK.answers(x, solutions.isEmpty() ? -2 : odd == 0 ? 0 : odd == solutions.size() ? 1 : -1, "sum", set);
        }
    }

    private void following() {
        long yes = random.nextInt(1 << n) & random.nextInt(1 << n);
        long no = random.nextInt(1 << n) & random.nextInt(1 << n) & ~yes;
        long[] due = follow(yes, no);
        CHECK.answers(x, due == null ? -1 : due[0], "follow", yes, no, true);
        CHECK.answers(x, due == null ? -1 : due[1], "follow", yes, no, false);
    }

    private long[] follow(long yes, long no) {
        for (int turn = 0; turn <= n; turn++) {
            long takenYes = yes;
            long takenNo = no;
            List<Long> left = solutions.stream().filter(a -> (a & takenYes) == takenYes && (a & takenNo) == 0).toList();
            if (left.isEmpty()) {
                return null;
            }
            long always = left.stream().reduce(-1L, (a, b) -> a & b);
            long ever = left.stream().reduce(0L, (a, b) -> a | b);
            yes |= always;
            no |= ~ever & (1L << n) - 1;
            for (long[] clause : clauses) {
                long open = clause[0] & ~no | clause[1] & ~yes;
                if (open == 0) {
                    return null;
                }
                if (Long.bitCount(open) == 1) {
                    yes |= open & clause[0];
                    no |= open & clause[1];
                }
            }
        }
        return new long[] {yes, no};
    }

    private void models() {
        List<Long> models = solutions.stream().filter(a -> clauses.stream().allMatch(c -> (c[0] & a) != 0 || (c[1] & ~a) != 0)).toList();
        CHECK.answers(x, models.size(), "models", 5000);
        CHECK.answers(x, models.isEmpty() ? 0 : 1, "solve", 5000);
        // the search tries 0 before 1, the least variable first: its first model comes before all others
        CHECK.answers(x, models.isEmpty() ? -1 : models.get(0), "model");
        for (int v = 1; v <= n; v++) {
            long variable = 1L << v - 1;
            long ones = models.stream().filter(a -> (a & variable) != 0).count();
            boolean open = models.isEmpty() || ones > 0 && ones < models.size();
            CHECK.answers(x, open ? -1 : ones > 0 ? 1 : 0, "must", v, 5000);
        }
    }
}
