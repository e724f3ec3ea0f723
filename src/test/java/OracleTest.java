import java.util.Random;

/** Random runs of calls, each answer compared with the oracle's. The seeds are fixed: each run is the same each time. */
public final class OracleTest {
    private static final Check CHECK = new Check("OracleTest");
    /** Nothing is promised of an object beyond these. */
    private static final int MOST_CALLS = 512;
    private static final long[] ODD = {-1, 0, 1, Long.MAX_VALUE, Long.MIN_VALUE, 1L << 40, 1L << 62, 64};
    private static final String[] WORDS = {"0", "0", "0", "x", "x", "-", " ", "\n", "1", "2", "00", "41", "40", "y", "\u00ff", "x 1 2 0", "1 -1 0"};

    private final Random random;
    private final int n;
    private final ParityClauses x;
    private final Oracle oracle;
    private final String run;
    private int calls = 0;

    private OracleTest(int seed, int n) {
        random = new Random(seed);
        this.n = n;
        x = new ParityClauses(n);
        oracle = new Oracle(n);
        run = "seed " + seed + ", n " + n;
    }

    public static void main(String[] args) {
        for (int seed = 0; seed < 1800; seed++) {
            new OracleTest(seed, 1 + seed % 9).small();
        }
        for (int seed = 3000; seed < 3030; seed++) {
            new OracleTest(seed, 20 + seed % 21).large();
        }
        for (int seed = 4000; seed < 4500; seed++) {
            new OracleTest(seed, 1 + seed % 40).lines();
        }
        CHECK.end();
    }

    private void same(String name, Object... args) {
        if (calls == MOST_CALLS) {
            return;
        }
        calls++;
        CHECK.due(run + ", call " + calls + ", " + Check.show(name, args), Check.answer(x, name, args), Check.answer(oracle, name, args));
    }

    private void small() {
        int most = 8 + random.nextInt(5);
        for (int i = random.nextInt(40); i > 0; i--) {
            grow(most, 4);
        }
        while (calls < MOST_CALLS) {
            grow(most, 4);
            ask();
        }
    }

    private void large() {
        int from = random.nextInt(n);
        for (int i = 0; i < from; i++) {
            grow(60, 1);
        }
        while (calls < MOST_CALLS) {
            grow(60, 6);
            askLinear();
            askClauses(60);
        }
    }

    /** A clause or an equation more, or, once in a while, one of the calls that take back. */
    private void grow(int most, int width) {
        int kind = random.nextInt(12);
        if (kind < 4) {
            same("equation", some(1 + random.nextInt(3) * width), random.nextInt(2));
        } else if (kind < 9) {
            long yes = some(1 + random.nextInt(4));
            long no = some(1 + random.nextInt(4)) & ~yes;
            same("clause", yes, no);
        } else if (kind == 9) {
            same("push");
        } else if (kind == 10) {
            same("pop", random.nextInt(3));
        } else if (random.nextInt(8) == 0) {
            same("clear");
        }
        if (oracle.count(1) > most || oracle.count(2) > 3 * most) {
            same("pop", oracle.count(3));
        }
        if (random.nextInt(6) == 0) {
            addGate();
        }
    }

    /** The clauses of a gate, now and then all but one. */
    private void addGate() {
        long set = some(2 + random.nextInt(3));
        int right = random.nextInt(2);
        int left = random.nextInt(16);
        for (long a = set; a > 0; a = a - 1 & set) {
            if (Long.bitCount(a) % 2 != right && left-- != 0) {
                same("clause", set & ~a, a);
            }
        }
        if (right == 1) {
            same("clause", set, 0L);
        }
    }

    private void ask() {
        askLinear();
        askClauses(1 + random.nextInt(100));
        int odd = random.nextInt(8);
        if (odd == 0) {
            askOdd(ODD[random.nextInt(ODD.length)], ODD[random.nextInt(ODD.length)]);
        } else if (odd < 3) {
            feedText(random.nextInt(12));
        }
    }

    private void askLinear() {
        same("rows");
        for (int i = -1; i <= oracle.rows(); i += 1 + random.nextInt(3)) {
            same("row", i);
        }
        same("blame");
        same("solutions");
        long all = Math.max(1, oracle.solutions());
        same("solution", Math.floorMod(random.nextLong(), all));
        same("solution", all - random.nextInt(2));
        same("sum", some(1 + random.nextInt(4)));
        same("sum", oracle.rows() > 0 ? oracle.row(0) & ~(1L << 62) : 0L);
    }

    private void askClauses(int nodes) {
        long yes = some(random.nextInt(4));
        long no = some(random.nextInt(4)) & ~yes;
        same("follow", yes, no, true);
        same("follow", yes, no, false);
        same("solve", nodes);
        same("model");
        same("nodes");
        same("models", nodes);
        same("nodes");
        same("must", random.nextInt(n + 2), nodes);
        same("nodes");
        same("model");
        same("gates");
        for (int i = -1; i <= oracle.gates(); i++) {
            same("gate", i);
        }
    }

    private void askOdd(long a, long b) {
        same("equation", a, (int) b);
        same("clause", a, b);
        same("feed", a, (int) b);
        same("told", (int) a, (int) b);
        same("told", (int) a, random.nextInt(4));
        same("told", random.nextInt(3), (int) b);
        same("row", (int) a);
        same("gate", (int) a);
        same("solution", a);
        same("sum", a);
        same("follow", a, b, true);
        same("must", (int) a, (int) b);
        same("pop", (int) a);
        same("count", (int) a);
    }

    private void lines() {
        while (calls < MOST_CALLS) {
            feedText(random.nextInt(60));
            if (random.nextInt(5) == 0) {
                same("push");
            }
            same("pop", random.nextInt(2));
        }
    }

    /** A text that is right but for some words that may stand anywhere. */
    private void feedText(int words) {
        int odd = random.nextInt(3) * random.nextInt(10);
        StringBuilder text = new StringBuilder();
        for (int i = 0; i < words; i++) {
            if (random.nextInt(100) < odd) {
                text.append(WORDS[random.nextInt(WORDS.length)]);
            } else {
                rightWord(text);
            }
            text.append(random.nextInt(150) < odd ? "" : random.nextInt(6) == 0 ? " \n" : " ");
        }
        text.append(random.nextInt(4) == 0 ? "" : random.nextInt(3) == 0 ? "0 " : "0");
        for (int i = 0; i < text.length(); ) {
            int count = Math.min(1 + random.nextInt(8), text.length() - i);
            long bytes = random.nextLong();
            for (int j = 0; j < count; j++) {
                bytes = bytes << 8 | text.charAt(i++);
            }
            same("feed", bytes, count);
        }
        same("read");
        same("fault");
        for (int what = 0; what < 5; what++) {
            same("count", what);
        }
        for (int what = 0; what < 4; what++) {
            int last = oracle.count(what < 2 ? 1 : 2) - 1;
            same("told", last - random.nextInt(3), what);
            same("told", last + random.nextInt(2), what);
        }
    }

    private void rightWord(StringBuilder text) {
        int kind = random.nextInt(12);
        if (kind < 3) {
            text.append(random.nextBoolean() ? "0" : "0 x");
        } else {
            text.append(kind < 7 ? "-" : "").append(1 + random.nextInt(random.nextInt(40) == 0 ? n + 3 : n));
        }
    }

    /** A set of about so many variables. */
    private long some(int about) {
        long set = 0;
        for (int i = 0; i < about; i++) {
            set |= 1L << random.nextInt(n);
        }
        return set;
    }
}
