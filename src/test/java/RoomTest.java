import java.lang.management.ManagementFactory;
import java.util.Random;

/** Calls with any arguments in any state: only exceptions of the document's, and no more memory than a run's room has. */
public final class RoomTest {
    private static final Check CHECK = new Check("RoomTest");
    /** A run's room has 7.3 million elements, of 8 bytes at most, for 512 calls. */
    private static final long ROOM_OF_A_CALL = 7_300_000L * 8L / 512L;
    private static final int TURNS = 20;
    private static final String[] DEAR = {"equation", "clause", "feed", "read", "push", "pop", "rows", "blame", "solution",
        "follow", "solve", "models", "must", "gates", "clear"};
    private static final long[] EDGES = {0, 1, 2, 3, 7, 8, 9, 19, 20, 21, 39, 40, 41, 59, 60, 61, 63, 64, 499, 500, 501, 4999, 5000, 5001};

    public static void main(String[] args) {
        for (int seed = 0; seed < 250; seed++) {
            wild(new Random(seed), seed % 43);
        }
        newObjectsFit();
        callsFit();
        CHECK.end();
    }

    private static void wild(Random random, int n) {
        ParityClauses x = new ParityClauses(n);
        for (int i = 0; i < 480; i++) {
            try {
                call(random, x, number(random, n), number(random, n));
                CHECK.due("a call", "answers", "answers");
            } catch (RuntimeException e) {
                Class<?> kind = e.getClass();
                CHECK.due("" + e, kind == IllegalArgumentException.class || kind == IllegalStateException.class
                    || kind == IndexOutOfBoundsException.class, true);
                CHECK.due("thrown by the class itself", e.getStackTrace()[0].getClassName().split("\\$")[0], "ParityClauses");
            }
        }
    }

    private static long number(Random random, int n) {
        int kind = random.nextInt(8);
        long edge = EDGES[random.nextInt(EDGES.length)];
        if (kind == 0) {
            return random.nextLong();
        }
        if (kind == 1) {
            return random.nextBoolean() ? -edge : (random.nextBoolean() ? Long.MIN_VALUE : Long.MAX_VALUE) ^ edge;
        }
        return kind < 5 ? edge : random.nextLong() & random.nextLong() & (1L << n) - 1;
    }

    private static void call(Random random, ParityClauses x, long a, long b) {
        switch (random.nextInt(24)) {
            case 0 -> x.equation(a, random.nextInt(3));
            case 1 -> x.equation(a, (int) b);
            case 2, 3 -> x.clause(a & ~b, b);
            case 4 -> x.clause(a, b);
            case 5 -> x.feed(a, (int) b);
            case 6 -> Check.feed(x, random.nextBoolean() ? "x 1 0 0\n" : "-1 2 0 \n");
            case 7 -> x.read();
            case 8 -> x.push();
            case 9 -> x.pop(random.nextInt(3));
            case 10 -> x.pop((int) a);
            case 11 -> x.told((int) a, (int) b);
            case 12 -> x.row((int) a);
            case 13 -> x.blame();
            case 14 -> x.solution(a);
            case 15 -> x.sum(a);
            case 16 -> x.follow(a, b & ~a, true);
            case 17 -> x.solve((int) a);
            case 18 -> x.models((int) a);
            case 19 -> x.must((int) a, (int) b);
            case 20 -> x.gates();
            case 21 -> x.gate((int) a);
            case 22 -> x.count((int) a);
            default -> {
                if (random.nextInt(30) == 0) {
                    x.clear();
                }
            }
        }
    }

    private static long made() {
        return ((com.sun.management.ThreadMXBean) ManagementFactory.getThreadMXBean()).getCurrentThreadAllocatedBytes();
    }

    /** Even if each call of a run made a new object, they would have to fit in. */
    private static void newObjectsFit() {
        ParityClauses[] kept = new ParityClauses[TURNS];
        long before = made();
        for (int i = 0; i < TURNS; i++) {
            kept[i] = new ParityClauses(40);
        }
        fits("a new object", made() - before);
    }

    /** Each call is measured in the state that makes it dear, on objects that have not made it before. */
    private static void callsFit() {
        for (String name : DEAR) {
            dearCall(filled(name), name);
            ParityClauses[] objects = new ParityClauses[TURNS];
            for (int i = 0; i < TURNS; i++) {
                objects[i] = filled(name);
            }
            long before = made();
            for (ParityClauses x : objects) {
                dearCall(x, name);
            }
            fits(name, made() - before);
        }
    }

    private static void fits(String what, long bytes) {
        CHECK.due(what + " makes " + bytes / TURNS + " bytes, not above " + ROOM_OF_A_CALL, bytes / TURNS <= ROOM_OF_A_CALL, true);
    }

    /** Searches have 5000 nodes here, the tape has many lines, and for blame() there is a sum that can't be. */
    private static ParityClauses filled(String name) {
        ParityClauses x = new ParityClauses(40);
        for (int v = 0; v < 19; v++) {
            x.push();
            x.equation(5L << v | 1L << (v + 20), v & 1);
            x.clause(3L << v, 1L << (v + 15));
        }
        Check.addGate(x, 3L << 38, 0);
        Check.addGate(x, 3L << 38, 1);
        Check.feed(x, "x 1 -2 0 1 -2 0 ".repeat(30));
        if (name.equals("blame")) {
            x.equation(0L, 1);
        }
        return x;
    }

    private static void dearCall(ParityClauses x, String name) {
        switch (name) {
            case "equation" -> x.equation(7L, 1);
            case "clause" -> x.clause(7L, 8L);
            case "feed" -> x.feed(0x2020202020202020L, 8);
            case "read" -> x.read();
            case "push" -> x.push();
            case "pop" -> x.pop(19);
            case "rows" -> x.rows();
            case "blame" -> x.blame();
            case "solution" -> x.solution(1L << 20);
            case "follow" -> x.follow(1L, 2L, true);
            case "solve" -> x.solve(5000);
            case "models" -> x.models(5000);
            case "must" -> x.must(1, 5000);
            case "gates" -> x.gates();
            default -> x.clear();
        }
    }
}
