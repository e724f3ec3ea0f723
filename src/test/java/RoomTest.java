import java.lang.management.ManagementFactory;
import java.util.Random;

/** Calls with any arguments in any state: only exceptions of the document's, and hardly any memory. */
public final class RoomTest {
    private static final Check CHECK = new Check("RoomTest");
    private static final long[] EDGES = {0, 1, 2, 3, 7, 8, 9, 19, 20, 21, 39, 40, 41, 59, 60, 61, 63, 64, 499, 500, 501, 4999, 5000, 5001};

    public static void main(String[] args) {
        for (int seed = 0; seed < 250; seed++) {
            wild(new Random(seed), seed % 43);
        }
        newObjectIsSmall();
        callsMakeNothing();
        CHECK.end();
    }

    private static void wild(Random random, int n) {
        ParityClauses x = new ParityClauses(n);
        for (int i = 0; i < 480; i++) {
            try {
                call(random, x, number(random, n), number(random, n));
                CHECK.due("a call", "answers", "answers");
            } catch (RuntimeException e) {
                Class<?> kind = e.getClass();
                CHECK.due("" + e, kind == IllegalArgumentException.class || kind == IllegalStateException.class
                    || kind == IndexOutOfBoundsException.class, true);
                CHECK.due("thrown by the face", e.getStackTrace()[0].getClassName(), "ParityClauses");
            }
        }
    }

    private static long number(Random random, int n) {
        int kind = random.nextInt(8);
        long edge = EDGES[random.nextInt(EDGES.length)];
        if (kind == 0) {
            return random.nextLong();
        }
        if (kind == 1) {
            return random.nextBoolean() ? -edge : (random.nextBoolean() ? Long.MIN_VALUE : Long.MAX_VALUE) ^ edge;
        }
        return kind < 5 ? edge : random.nextLong() & random.nextLong() & (1L << n) - 1;
    }

    private static void call(Random random, ParityClauses x, long a, long b) {
        switch (random.nextInt(24)) {
            case 0 -> x.equation(a, random.nextInt(3));
            case 1 -> x.equation(a, (int) b);
            case 2, 3 -> x.clause(a & ~b, b);
            case 4 -> x.clause(a, b);
            case 5 -> x.feed(a, (int) b);
            case 6 -> Check.feed(x, random.nextBoolean() ? "x 1 0 0\n" : "-1 2 0 \n");
            case 7 -> x.read();
            case 8 -> x.push();
            case 9 -> x.pop(random.nextInt(3));
            case 10 -> x.pop((int) a);
            case 11 -> x.told((int) a, (int) b);
            case 12 -> x.row((int) a);
            case 13 -> x.blame();
            case 14 -> x.solution(a);
            case 15 -> x.sum(a);
            case 16 -> x.follow(a, b & ~a, true);
            case 17 -> x.solve((int) a);
            case 18 -> x.models((int) a);
            case 19 -> x.must((int) a, (int) b);
            case 20 -> x.gates();
            case 21 -> x.gate((int) a);
            case 22 -> x.count((int) a);
            default -> {
                if (random.nextInt(30) == 0) {
                    x.clear();
                }
            }
        }
    }

    private static long made() {
        return ((com.sun.management.ThreadMXBean) ManagementFactory.getThreadMXBean()).getCurrentThreadAllocatedBytes();
    }

    /** 512 objects of 14,000 elements of 8 bytes would fill the room of a run. */
    private static void newObjectIsSmall() {
        ParityClauses[] kept = new ParityClauses[100];
        long before = made();
        for (int i = 0; i < kept.length; i++) {
            kept[i] = new ParityClauses(40);
        }
        long each = (made() - before) / kept.length;
        CHECK.due("an object has " + each + " bytes, few", each < 40_000, true);
    }

    private static void callsMakeNothing() {
        ParityClauses[] objects = new ParityClauses[200];
        for (int i = 0; i < objects.length; i++) {
            objects[i] = new ParityClauses(40);
        }
        everyCall(new ParityClauses(40));
        long before = made();
        for (ParityClauses x : objects) {
            everyCall(x);
        }
        long each = (made() - before) / objects.length;
        CHECK.due("some 80 calls together make " + each + " bytes, few", each < 200_000, true);
    }

    private static void everyCall(ParityClauses x) {
        x.clear();
        for (int v = 0; v < 19; v++) {
            x.push();
            x.equation(5L << v | 1L << (v + 20), v & 1);
            x.clause(3L << v, 1L << (v + 15));
        }
        x.feed(0x7820312032203020L, 8);
        x.feed(0x31202D3220332030L, 8);
        x.read();
        x.rows();
        x.row(0);
        x.blame();
        x.solution(x.solutions() - 1);
        x.sum(5L);
        x.follow(1L, 2L, true);
        x.solve(500);
        x.models(500);
        x.must(40, 500);
        x.gates();
        x.pop(19);
    }
}
