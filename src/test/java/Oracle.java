import java.util.ArrayList;
import java.util.List;
import java.util.regex.Matcher;
import java.util.regex.Pattern;

/** The document's words as plainly as can be, without regard to speed or room: what ParityClauses is compared with. */
public final class Oracle {
    private static final int NONE = -1, MANY = -2;
    private static final long RIGHT = 1L << 62;
    private static final String GAP = "[ \n]";
    private static final String LINE = "(?:x" + GAP + "+)?(?:-?[1-9][0-9]*" + GAP + "+)*0";
    private static final Pattern TEXT = Pattern.compile(GAP + "*(?:" + LINE + "(?:" + GAP + "+" + LINE + ")*" + GAP + "*)?");

    private record Clause(long yes, long no) {
        boolean right(long ones, long zeros) {
            return (yes & ones) != 0 || (no & zeros) != 0;
        }
    }

    private record Level(int equations, int clauses) {}

    private final int n;
    private List<Long> equations = new ArrayList<>();
    private List<Clause> clauses = new ArrayList<>();
    private final List<Level> levels = new ArrayList<>();
    private final StringBuilder tape = new StringBuilder();
    private int fault = 0;
    private int nodes = 0;
    private long model = NONE;
    private int budget;
    private int found;
    private long firstFound;

    public Oracle(int n) {
        this.n = n < 1 ? 1 : n > 40 ? 40 : n;
    }

    private static void need(boolean holds, RuntimeException otherwise) {
        if (!holds) {
            throw otherwise;
        }
    }

    private boolean known(long set) {
        return set >= 0 && set < 1L << n;
    }

    public int equation(long set, int right) {
        need(known(set) && (right == 0 || right == 1), new IllegalArgumentException());
        need(equations.size() < 60, new IllegalStateException());
        equations.add(set | right * RIGHT);
        return equations.size() - 1;
    }

    public int clause(long yes, long no) {
        need(known(yes) && known(no) && (yes & no) == 0, new IllegalArgumentException());
        need(clauses.size() < 60, new IllegalStateException());
        clauses.add(new Clause(yes, no));
        return clauses.size() - 1;
    }

    public int feed(long bytes, int count) {
        need(count >= 1 && count <= 8, new IllegalArgumentException());
        need(tape.length() + count <= 500, new IllegalStateException());
        for (int i = 8 - count; i < 8; i++) {
            tape.append((char) (bytes << 8 * i >>> 56));
        }
        return tape.length();
    }

    public int read() {
        String text = tape.toString();
        tape.setLength(0);
        int firstWrong = firstWrongByte(text);
        List<Long> newEquations = new ArrayList<>(equations);
        List<Clause> newClauses = new ArrayList<>(clauses);
        int lines = 0;
        int start = 0;
        fault = 0;
        // whatever stands before the first wrong byte is made of whole words
        Matcher words = Pattern.compile("[x0]|-|[1-9][0-9]*").matcher(text.substring(0, Math.min(firstWrong, text.length())));
        while (words.find()) {
            String word = words.group();
            if (word.charAt(0) >= '1' && word.charAt(0) <= '9' && (word.length() > 2 || Integer.parseInt(word) > n)) {
                fault = 2;
                return -1 - words.start();
            }
            if (word.equals("0")) {
                keep(text.substring(start, words.start()), newEquations, newClauses);
                if (newEquations.size() > 60 || newClauses.size() > 60) {
                    fault = 3;
                    return -1 - words.start();
                }
                lines++;
                start = words.end();
            }
        }
        if (firstWrong <= text.length()) {
            fault = 1;
            return -1 - firstWrong;
        }
        equations = newEquations;
        clauses = newClauses;
        return lines;
    }

    /** The first byte behind which no text can go on; the length if the end is within a line; more if all is well. */
    private static int firstWrongByte(String text) {
        for (int i = 1; i <= text.length(); i++) {
            Matcher begin = TEXT.matcher(text.substring(0, i));
            if (!begin.matches() && !begin.hitEnd()) {
                return i - 1;
            }
        }
        return TEXT.matcher(text).matches() ? text.length() + 1 : text.length();
    }

    private static void keep(String line, List<Long> newEquations, List<Clause> newClauses) {
        long sum = RIGHT;
        long yes = 0;
        long no = 0;
        for (String word : line.trim().split(GAP + "+")) {
            if (!word.isEmpty() && !word.equals("x")) {
                long variable = 1L << Math.abs(Integer.parseInt(word)) - 1;
                sum ^= word.startsWith("-") ? variable | RIGHT : variable;
                yes |= word.startsWith("-") ? 0 : variable;
                no |= word.startsWith("-") ? variable : 0;
            }
        }
        if (line.trim().startsWith("x")) {
            newEquations.add(sum);
        } else if ((yes & no) == 0) {
            newClauses.add(new Clause(yes, no));
        }
    }

    public int fault() {
        return fault;
    }

    public int push() {
        need(levels.size() < 20, new IllegalStateException());
        levels.add(new Level(equations.size(), clauses.size()));
        return levels.size();
    }

    public int pop(int count) {
        need(count >= 0 && count <= levels.size(), new IllegalArgumentException());
        for (int i = 0; i < count; i++) {
            Level level = levels.remove(levels.size() - 1);
            equations = new ArrayList<>(equations.subList(0, level.equations()));
            clauses = new ArrayList<>(clauses.subList(0, level.clauses()));
        }
        return equations.size() + clauses.size();
    }

    public long told(int i, int what) {
        need(what < 0 || what > 1 || i >= 0 && i < equations.size(), new IndexOutOfBoundsException());
        need(what < 2 || what > 3 || i >= 0 && i < clauses.size(), new IndexOutOfBoundsException());
        need(what >= 0 && what <= 3, new IllegalArgumentException());
        return what == 0 ? equations.get(i) & ~RIGHT : what == 1 ? equations.get(i) >>> 62
            : what == 2 ? clauses.get(i).yes() : clauses.get(i).no();
    }

    /** The reduced form, column by column; null if it is impossible. */
    private List<Long> reduce(List<Long> some) {
        List<Long> rows = new ArrayList<>(some);
        int done = 0;
        for (int v = 0; v < n; v++) {
            for (int i = done; i < rows.size(); i++) {
                if ((rows.get(i) >> v & 1) == 1) {
                    long head = rows.remove(i);
                    rows.add(done, head);
                    for (int j = 0; j < rows.size(); j++) {
                        if (j != done && (rows.get(j) >> v & 1) == 1) {
                            rows.set(j, rows.get(j) ^ head);
                        }
                    }
                    done++;
                    break;
                }
            }
        }
        return rows.subList(done, rows.size()).contains(RIGHT) ? null : rows.subList(0, done);
    }

    private List<Long> with(List<Long> some, long more) {
        List<Long> all = new ArrayList<>(some);
        all.add(more);
        return reduce(all);
    }

    public int rows() {
        List<Long> rows = reduce(equations);
        return rows == null ? NONE : rows.size();
    }

    public long row(int i) {
        List<Long> rows = reduce(equations);
        need(rows != null && i >= 0 && i < rows.size(), new IndexOutOfBoundsException());
        return rows.get(i);
    }

    /** Takes equations out from the last one on, as long as what is left is impossible: the least number stays. */
    public long blame() {
        if (reduce(equations) != null) {
            return 0;
        }
        List<Integer> left = new ArrayList<>();
        for (int i = 0; i < equations.size(); i++) {
            left.add(i);
        }
        for (int i = equations.size() - 1; i >= 0; i--) {
            List<Integer> fewer = new ArrayList<>(left);
            fewer.remove(Integer.valueOf(i));
            List<Long> sums = new ArrayList<>();
            fewer.forEach(j -> sums.add(equations.get(j)));
            if (reduce(sums) == null) {
                left = fewer;
            }
        }
        long blame = 0;
        for (int i : left) {
            blame |= 1L << i;
        }
        return blame;
    }

    public long solutions() {
        List<Long> rows = reduce(equations);
        return rows == null ? 0 : 1L << n - rows.size();
    }

    public long solution(long k) {
        if (k < 0 || k >= solutions()) {
            return NONE;
        }
        long ones = 0;
        List<Long> fixed = reduce(equations);
        for (int v = 0; v < n; v++) {
            List<Long> zero = with(fixed, 1L << v);
            long before = zero == null ? 0 : 1L << n - zero.size();
            if (k < before) {
                fixed = zero;
            } else {
                k -= before;
                ones |= 1L << v;
                fixed = with(fixed, 1L << v | RIGHT);
            }
        }
        return ones;
    }

    public int sum(long set) {
        need(known(set), new IllegalArgumentException());
        if (reduce(equations) == null) {
            return MANY;
        }
        boolean zero = with(equations, set) != null;
        boolean one = with(equations, set | RIGHT) != null;
        return zero && one ? NONE : one ? 1 : 0;
    }

    /** Those taken for 1 and those taken for 0 then; null if it fails. */
    private long[] spread(long ones, long zeros) {
        while (true) {
            List<Long> all = new ArrayList<>(equations);
            for (int v = 0; v < n; v++) {
                if (((ones | zeros) >> v & 1) == 1) {
                    all.add(1L << v | (ones >> v & 1) * RIGHT);
                }
            }
            List<Long> rows = reduce(all);
            if (rows == null) {
                return null;
            }
            long oldOnes = ones;
            long oldZeros = zeros;
            for (int v = 0; v < n; v++) {
                if (((ones | zeros) >> v & 1) == 0) {
                    ones |= with(rows, 1L << v) == null ? 1L << v : 0;
                    zeros |= with(rows, 1L << v | RIGHT) == null ? 1L << v : 0;
                }
            }
            for (Clause clause : clauses) {
                long open = (clause.yes() | clause.no()) & ~ones & ~zeros;
                if (!clause.right(ones, zeros) && open == 0) {
                    return null;
                }
                if (!clause.right(ones, zeros) && Long.bitCount(open) == 1) {
                    ones |= open & clause.yes();
                    zeros |= open & clause.no();
                }
            }
            if (ones == oldOnes && zeros == oldZeros) {
                return new long[] {ones, zeros};
            }
        }
    }

    public long follow(long yes, long no, boolean ones) {
        need(known(yes) && known(no) && (yes & no) == 0, new IllegalArgumentException());
        long[] taken = spread(yes, no);
        return taken == null ? NONE : taken[ones ? 0 : 1];
    }

    /** False if it ends before its end: one more node is needed, or the first model is enough. */
    private boolean node(long ones, long zeros, boolean toFirst) {
        if (budget == 0) {
            budget = -1;
            return false;
        }
        budget--;
        long[] taken = spread(ones, zeros);
        if (taken == null) {
            return true;
        }
        for (int v = 0; v < n; v++) {
            if (((taken[0] | taken[1]) >> v & 1) == 0) {
                return node(taken[0], taken[1] | 1L << v, toFirst) && node(taken[0] | 1L << v, taken[1], toFirst);
            }
        }
        firstFound = taken[0];
        found++;
        return !toFirst;
    }

    private int look(long ones, long zeros, int limit, boolean toFirst) {
        budget = limit;
        found = 0;
        node(ones, zeros, toFirst);
        boolean cut = budget < 0;
        nodes += cut ? limit : limit - budget;
        return cut ? MANY : found;
    }

    public int solve(int limit) {
        need(limit >= 1 && limit <= 5000, new IllegalArgumentException());
        nodes = 0;
        int answer = look(0, 0, limit, true);
        model = answer == 1 ? firstFound : NONE;
        return answer;
    }

    public long model() {
        return model;
    }

    public long models(int limit) {
        need(limit >= 1 && limit <= 5000, new IllegalArgumentException());
        nodes = 0;
        return look(0, 0, limit, false);
    }

    public int nodes() {
        return nodes;
    }

    public int must(int variable, int limit) {
        need(variable >= 1 && variable <= n, new IndexOutOfBoundsException());
        need(limit >= 1 && limit <= 5000, new IllegalArgumentException());
        nodes = 0;
        int zero = look(0, 1L << variable - 1, limit, true);
        int one = zero == MANY ? MANY : look(1L << variable - 1, 0, limit, true);
        return one == MANY ? MANY : zero == one ? NONE : one;
    }

    private List<Long> gateList() {
        List<Long> gates = new ArrayList<>();
        List<Long> sets = new ArrayList<>();
        for (Clause clause : clauses) {
            sets.add(clause.yes() | clause.no());
        }
        sets.stream().distinct().sorted().filter(s -> Long.bitCount(s) >= 2 && Long.bitCount(s) <= 4).forEach(set -> {
            for (int r = 0; r <= 1; r++) {
                if (isGate(set, r)) {
                    gates.add(set | r * RIGHT);
                }
            }
        });
        return gates;
    }

    private boolean isGate(long set, int r) {
        for (long a = set; ; a = a - 1 & set) {
            long ones = a;
            if (Long.bitCount(a) % 2 != r && clauses.stream().noneMatch(c -> onlyWrong(c, set, ones))) {
                return false;
            }
            if (a == 0) {
                return true;
            }
        }
    }

    /** The clause is of just this set, and of all assignments of the set this one alone makes it wrong. */
    private static boolean onlyWrong(Clause clause, long set, long ones) {
        if ((clause.yes() | clause.no()) != set) {
            return false;
        }
        for (long a = set; ; a = a - 1 & set) {
            if (clause.right(a, set & ~a) == (a == ones)) {
                return false;
            }
            if (a == 0) {
                return true;
            }
        }
    }

    public int gates() {
        return gateList().size();
    }

    public long gate(int i) {
        need(i >= 0 && i < gateList().size(), new IndexOutOfBoundsException());
        return gateList().get(i);
    }

    public int count(int what) {
        need(what >= 0 && what <= 4, new IllegalArgumentException());
        return new int[] {n, equations.size(), clauses.size(), levels.size(), tape.length()}[what];
    }

    public void clear() {
        equations.clear();
        clauses.clear();
        levels.clear();
        tape.setLength(0);
    }
}
