import java.util.Arrays;

/**
 * Equations of bits and clauses over the same variables 1 .. n.
 *
 * Inside, variable v is bit v - 1 and is spoken of by that place (0 .. n - 1). An equation is one long:
 * its set, and bit 62 for a right side of 1, so that the sum of two equations is their exclusive or.
 */
public final class ParityClauses {
    public static final int NONE = -1, MANY = -2;

    private static final int MOST_VARIABLES = 40;
    private static final int MOST_TOLD = 60;
    private static final int MOST_LEVELS = 20;
    private static final int MOST_BYTES = 500;
    private static final int MOST_NODES = 5000;
    private static final long RIGHT = 1L << 62;

    private final int n;
    private final long variables;
    private final Store store;
    private final Tape tape;
    private final Rows base;
    private final Blame blamed;
    private final GateList gateList;
    private final Taking taking;
    private final Search search;
    private boolean rowsFresh;
    private boolean gatesFresh;
    private int latestFault;
    private int latestNodes;
    private long latestModel;

    public ParityClauses(int n) {
        this.n = Math.max(1, Math.min(n, MOST_VARIABLES));
        variables = (1L << this.n) - 1L;
        store = new Store();
        tape = new Tape();
        base = new Rows(this.n);
        blamed = new Blame(this.n);
        gateList = new GateList();
        taking = new Taking(this.n);
        search = new Search(this.n);
        latestModel = NONE;
    }

    public int equation(long set, int right) throws IllegalArgumentException, IllegalStateException {
        if (!areVariables(set) || right < 0 || right > 1) {
            throw new IllegalArgumentException("an equation has variables that there are, and 0 or 1");
        }
        if (store.equationCount >= MOST_TOLD) {
            throw new IllegalStateException("there are 60 equations");
        }
        forget();
        store.addEquation(right == 1 ? set | RIGHT : set);
        return store.equationCount - 1;
    }

    public int clause(long yes, long no) throws IllegalArgumentException, IllegalStateException {
        if (!areTwoSets(yes, no)) {
            throw new IllegalArgumentException("a clause has variables that there are, none in both sets");
        }
        if (store.clauseCount >= MOST_TOLD) {
            throw new IllegalStateException("there are 60 clauses");
        }
        forget();
        store.addClause(yes, no);
        return store.clauseCount - 1;
    }

    public int feed(long bytes, int n) throws IllegalArgumentException, IllegalStateException {
        if (n < 1 || n > 8) {
            throw new IllegalArgumentException("1 .. 8 bytes");
        }
        if (tape.length + n > MOST_BYTES) {
            throw new IllegalStateException("more than 500 bytes");
        }
        for (int left = n - 1; left >= 0; left--) {
            tape.put((int) (bytes >>> (8 * left)) & 255);
        }
        return tape.length;
    }

    public int read() {
        int equations = store.equationCount;
        int clauses = store.clauseCount;
        int lines = tape.readLines(store, n);
        if (lines < 0) {
            store.cutTo(equations, clauses);
        }
        latestFault = tape.fault;
        tape.length = 0;
        forget();
        return lines;
    }

    public int fault() {
        return latestFault;
    }

    public int push() throws IllegalStateException {
        if (store.levelCount >= MOST_LEVELS) {
            throw new IllegalStateException("there are 20 levels");
        }
        store.addLevel();
        return store.levelCount;
    }

    public int pop(int n) throws IllegalArgumentException {
        if (n < 0 || n > store.levelCount) {
            throw new IllegalArgumentException("there are not so many levels");
        }
        store.takeBackTo(store.levelCount - n);
        forget();
        return store.equationCount + store.clauseCount;
    }

    public long told(int i, int what) throws IndexOutOfBoundsException, IllegalArgumentException {
        if (what < 0 || what > 3) {
            throw new IllegalArgumentException("0 .. 3 can be asked for");
        }
        if (i < 0 || i >= (what < 2 ? store.equationCount : store.clauseCount)) {
            throw new IndexOutOfBoundsException("there is no such equation or clause");
        }
        switch (what) {
            case 0: return store.equations[i] & ~RIGHT;
            case 1: return (store.equations[i] & RIGHT) != 0L ? 1L : 0L;
            case 2: return store.yes[i];
            default: return store.no[i];
        }
    }

    public int rows() {
        freshenRows();
        return base.impossible ? NONE : base.size();
    }

    public long row(int i) throws IndexOutOfBoundsException {
        freshenRows();
        long found = base.impossible || i < 0 ? 0L : base.inOrder(i);
        if (found == 0L) {
            throw new IndexOutOfBoundsException("there is no such row");
        }
        return found;
    }

    public long blame() {
        freshenRows();
        return base.impossible ? blamed.leastSum(store) : 0L;
    }

    public long solutions() {
        freshenRows();
        return base.impossible ? 0L : 1L << (n - base.size());
    }

    public long solution(long k) {
        if (k < 0L || k >= solutions()) {
            return NONE;
        }
        taking.begin(base);
        return taking.takeByNumber(k, n - base.size());
    }

    public int sum(long set) throws IllegalArgumentException {
        if (!areVariables(set)) {
            throw new IllegalArgumentException("variables that there are not");
        }
        freshenRows();
        if (base.impossible) {
            return MANY;
        }
        long rest = base.reduced(set);
        if ((rest & ~RIGHT) != 0L) {
            return NONE;
        }
        return rest != 0L ? 1 : 0;
    }

    public long follow(long yes, long no, boolean ones) throws IllegalArgumentException {
        if (!areTwoSets(yes, no)) {
            throw new IllegalArgumentException("variables that there are, none in both sets");
        }
        freshenRows();
        taking.begin(base);
        taking.takeAll(yes, no);
        if (!taking.spread(store)) {
            return NONE;
        }
        return ones ? taking.ones : taking.taken & ~taking.ones;
    }

    public int solve(int nodes) throws IllegalArgumentException {
        if (!areNodes(nodes)) {
            throw new IllegalArgumentException("1 .. 5000 nodes");
        }
        freshenRows();
        search.begin(base);
        search.run(store, nodes, true);
        latestNodes = search.nodeCount;
        latestModel = search.modelCount > 0 ? search.lastModel : NONE;
        if (search.cut) {
            return MANY;
        }
        return search.modelCount;
    }

    public long model() {
        return latestModel;
    }

    public long models(int nodes) throws IllegalArgumentException {
        if (!areNodes(nodes)) {
            throw new IllegalArgumentException("1 .. 5000 nodes");
        }
        freshenRows();
        search.begin(base);
        search.run(store, nodes, false);
        latestNodes = search.nodeCount;
        return search.cut ? MANY : search.modelCount;
    }

    public int nodes() {
        return latestNodes;
    }

    public int must(int variable, int nodes) throws IndexOutOfBoundsException, IllegalArgumentException {
        if (variable < 1 || variable > n) {
            throw new IndexOutOfBoundsException("there is no such variable");
        }
        if (!areNodes(nodes)) {
            throw new IllegalArgumentException("1 .. 5000 nodes");
        }
        freshenRows();
        search.begin(base);
        search.start.take(variable - 1, false);
        search.run(store, nodes, true);
        latestNodes = search.nodeCount;
        if (search.cut) {
            return MANY;
        }
        int ifZero = search.modelCount;
        search.begin(base);
        search.start.take(variable - 1, true);
        search.run(store, nodes, true);
        latestNodes += search.nodeCount;
        if (search.cut) {
            return MANY;
        }
        return search.modelCount == ifZero ? NONE : search.modelCount;
    }

    public int gates() {
        freshenGates();
        return gateList.size;
    }

    public long gate(int i) throws IndexOutOfBoundsException {
        freshenGates();
        if (i < 0 || i >= gateList.size) {
            throw new IndexOutOfBoundsException("there is no such gate");
        }
        return gateList.found[i];
    }

    public int count(int what) throws IllegalArgumentException {
        switch (what) {
            case 0: return n;
            case 1: return store.equationCount;
            case 2: return store.clauseCount;
            case 3: return store.levelCount;
            case 4: return tape.length;
            default: throw new IllegalArgumentException("0 .. 4 can be counted");
        }
    }

    public void clear() {
        store.cutTo(0, 0);
        store.levelCount = 0;
        tape.length = 0;
        forget();
    }

    private boolean areVariables(long set) {
        return (set & ~variables) == 0L;
    }

    private boolean areTwoSets(long yes, long no) {
        return areVariables(yes | no) && (yes & no) == 0L;
    }

    private boolean areNodes(int limit) {
        return limit >= 1 && limit <= MOST_NODES;
    }

    /** What was worked out of the equations and clauses holds no more, for these have changed. */
    private void forget() {
        rowsFresh = false;
        gatesFresh = false;
    }

    private void freshenRows() {
        if (!rowsFresh) {
            base.build(store);
            rowsFresh = true;
        }
    }

    private void freshenGates() {
        if (!gatesFresh) {
            gateList.build(store);
            gatesFresh = true;
        }
    }

    /** The place of a set's least variable; 64 if it has none. */
    private static int leastPlace(long set) {
        return Long.bitCount((set & -set) - 1L);
    }

    /** What has been told: equations, clauses, and the levels between them. */
    private static final class Store {
        final long[] equations = new long[MOST_TOLD];
        final long[] yes = new long[MOST_TOLD];
        final long[] no = new long[MOST_TOLD];
        int equationCount;
        int clauseCount;
        private final int[] equationsBefore = new int[MOST_LEVELS];
        private final int[] clausesBefore = new int[MOST_LEVELS];
        int levelCount;

        /** False, and nothing comes, if there are as many as there can be. */
        boolean addEquation(long equation) {
            if (equationCount >= MOST_TOLD) {
                return false;
            }
            equations[equationCount] = equation;
            equationCount++;
            return true;
        }

        /** False, and nothing comes, if there are as many as there can be. */
        boolean addClause(long first, long second) {
            if (clauseCount >= MOST_TOLD) {
                return false;
            }
            yes[clauseCount] = first;
            no[clauseCount] = second;
            clauseCount++;
            return true;
        }

        void addLevel() {
            if (levelCount < MOST_LEVELS) {
                equationsBefore[levelCount] = equationCount;
                clausesBefore[levelCount] = clauseCount;
                levelCount++;
            }
        }

        /** So many levels are left; what came behind the first that goes, goes too. */
        void takeBackTo(int levels) {
            if (levels >= 0 && levels < levelCount) {
                cutTo(equationsBefore[levels], clausesBefore[levels]);
                levelCount = levels;
            }
        }

        void cutTo(int leftEquations, int leftClauses) {
            equationCount = leftEquations;
            clauseCount = leftClauses;
        }
    }

    /** The bytes that were fed, and how they are read as lines. */
    private static final class Tape {
        private static final int END = -1;
        private static final int CANNOT_STAND = 1;
        private static final int ABOVE_N = 2;
        private static final int TOO_MANY = 3;

        private final int[] bytes = new int[MOST_BYTES];
        int length;
        int fault;
        private int place;
        private boolean isEquation;
        private long first;
        private long second;
        private boolean rightIsOne;

        void put(int oneByte) {
            if (length < MOST_BYTES) {
                bytes[length] = oneByte;
                length++;
            }
        }

        /** How many lines went into the store; -1 less the place of a fault (some may be in the store then). */
        int readLines(Store store, int n) {
            fault = 0;
            place = 0;
            int lines = 0;
            for (int turn = 0; turn <= MOST_BYTES; turn++) {
                skipBlanks();
                if (place >= length) {
                    return lines;
                }
                if (!readLine(n) || !keepLine(store) || !passZero()) {
                    return -1 - place;
                }
                lines++;
            }
            return lines;
        }

        /** Reads up to the 0 of a line, and stays there. */
        private boolean readLine(int n) {
            isEquation = byteAt(place) == 'x';
            first = 0L;
            second = 0L;
            rightIsOne = true;
            if (isEquation) {
                place++;
                if (!isBlank(byteAt(place))) {
                    return fail(CANNOT_STAND, place);
                }
            }
            for (int turn = 0; turn <= MOST_BYTES; turn++) {
                skipBlanks();
                if (byteAt(place) == '0') {
                    return true;
                }
                if (!readLiteral(n)) {
                    return false;
                }
            }
            return fail(CANNOT_STAND, place);
        }

        private boolean readLiteral(int n) {
            boolean minus = byteAt(place) == '-';
            if (minus) {
                place++;
            }
            if (byteAt(place) == '0' || !isFigure(byteAt(place))) {
                return fail(CANNOT_STAND, place);
            }
            int from = place;
            int number = readNumber();
            if (number > n) {
                return fail(ABOVE_N, from);
            }
            if (!isBlank(byteAt(place))) {
                return fail(CANNOT_STAND, place);
            }
            addLiteral(1L << (number - 1), minus);
            return true;
        }

        /** A number of many figures is held at a value above every n, so that it does not wrap around. */
        private int readNumber() {
            int number = 0;
            for (int turn = 0; turn < MOST_BYTES && isFigure(byteAt(place)); turn++) {
                number = Math.min(number * 10 + byteAt(place) - '0', MOST_VARIABLES + 1);
                place++;
            }
            return number;
        }

        private void addLiteral(long variable, boolean minus) {
            if (isEquation) {
                first ^= variable;
                rightIsOne = rightIsOne != minus;
            } else if (minus) {
                second |= variable;
            } else {
                first |= variable;
            }
        }

        private boolean keepLine(Store store) {
            boolean kept = true;
            if (isEquation) {
                kept = store.addEquation(rightIsOne ? first | RIGHT : first);
            } else if ((first & second) == 0L) {
                kept = store.addClause(first, second);
            }
            return kept || fail(TOO_MANY, place);
        }

        private boolean passZero() {
            place++;
            int next = byteAt(place);
            return next == END || isBlank(next) || fail(CANNOT_STAND, place);
        }

        private void skipBlanks() {
            for (int turn = 0; turn < MOST_BYTES && isBlank(byteAt(place)); turn++) {
                place++;
            }
        }

        private boolean fail(int code, int where) {
            fault = code;
            place = where;
            return false;
        }

        private int byteAt(int i) {
            return i >= 0 && i < length && i < MOST_BYTES ? bytes[i] : END;
        }

        private static boolean isBlank(int oneByte) {
            return oneByte == 32 || oneByte == 10;
        }

        private static boolean isFigure(int oneByte) {
            return oneByte >= '0' && oneByte <= '9';
        }
    }

    /** Equations in their one form: each row stands at the place of its head, which no other row has. */
    private static final class Rows {
        private final int n;
        final long[] byHead;
        boolean impossible;

        Rows(int n) {
            this.n = n;
            byHead = new long[n];
        }

        void build(Store store) {
            Arrays.fill(byHead, 0L);
            impossible = false;
            for (int i = 0; i < store.equationCount; i++) {
                enter(reduced(store.equations[i]));
            }
        }

        void copyFrom(Rows other) {
            System.arraycopy(other.byHead, 0, byHead, 0, Math.min(n, other.n));
            impossible = other.impossible;
        }

        int size() {
            int size = 0;
            for (int head = 0; head < n; head++) {
                if (byHead[head] != 0L) {
                    size++;
                }
            }
            return size;
        }

        /** Row i by their heads; 0 if there is none. */
        long inOrder(int i) {
            int before = 0;
            for (int head = 0; head < n; head++) {
                if (byHead[head] != 0L) {
                    if (before == i) {
                        return byHead[head];
                    }
                    before++;
                }
            }
            return 0L;
        }

        /** An equation plus those rows whose heads it has: no head is left in it. */
        long reduced(long equation) {
            long rest = equation;
            for (int head = 0; head < n; head++) {
                if ((equation >>> head & 1L) != 0L) {
                    rest ^= byHead[head];
                }
            }
            return rest;
        }

        /** A reduced equation becomes a row, and its head goes out of the rows before it. */
        private void enter(long row) {
            long set = row & ~RIGHT;
            // leastPlace(), written out: a search stands seven calls deep here already
            int head = Long.bitCount((set & -set) - 1L);
            if (head >= n) {
                impossible = impossible || row != 0L;
                return;
            }
            for (int other = 0; other < head; other++) {
                if ((byHead[other] >>> head & 1L) != 0L) {
                    byHead[other] ^= row;
                }
            }
            byHead[head] = row;
        }

        /** The variable is taken: it leaves the rows, and a row that had it for its head gets another one. */
        void settle(int place, boolean one) {
            if (place < 0 || place >= n) {
                return;
            }
            long change = 1L << place | (one ? RIGHT : 0L);
            long own = byHead[place];
            if (own != 0L) {
                byHead[place] = 0L;
                enter(own ^ change);
                return;
            }
            for (int head = 0; head < place; head++) {
                if ((byHead[head] >>> place & 1L) != 0L) {
                    byHead[head] ^= change;
                }
            }
        }
    }

    /** Finds the sum of blame. */
    private static final class Blame {
        private final int n;
        private final long[] byHead;
        private final long[] madeOf;

        Blame(int n) {
            this.n = n;
            byHead = new long[n];
            madeOf = new long[n];
        }

        /**
         * Equations that are sums of earlier ones are in none of the sums here. So, of the sets that end with the
         * first equation that can't be, this one is the least: any other one differs from it by a set whose sum is
         * nothing, and the last equation of that set is a sum of earlier ones, so it is in the other one only.
         */
        long leastSum(Store store) {
            Arrays.fill(byHead, 0L);
            Arrays.fill(madeOf, 0L);
            for (int i = 0; i < store.equationCount; i++) {
                long impossibleSum = add(store.equations[i], 1L << i);
                if (impossibleSum != 0L) {
                    return impossibleSum;
                }
            }
            return 0L;
        }

        private long add(long equation, long number) {
            long rest = equation;
            long parts = number;
            for (int head = 0; head < n; head++) {
                if ((rest >>> head & 1L) != 0L) {
                    if (byHead[head] == 0L) {
                        byHead[head] = rest;
                        madeOf[head] = parts;
                        return 0L;
                    }
                    rest ^= byHead[head];
                    parts ^= madeOf[head];
                }
            }
            return rest != 0L ? parts : 0L;
        }
    }

    /** Some variables that are taken for 0 or 1, and the rows that the equations have then. */
    private static final class Taking {
        private final int n;
        private final Rows rows;
        long taken;
        long ones;

        Taking(int n) {
            this.n = n;
            rows = new Rows(n);
        }

        void begin(Rows base) {
            rows.copyFrom(base);
            taken = 0L;
            ones = 0L;
        }

        void take(int place, boolean one) {
            long variable = 1L << place;
            taken |= variable;
            if (one) {
                ones |= variable;
            }
            rows.settle(place, one);
        }

        void takeAll(long yes, long no) {
            for (int place = 0; place < n; place++) {
                if (((yes | no) >>> place & 1L) != 0L) {
                    take(place, (yes >>> place & 1L) != 0L);
                }
            }
        }

        /**
         * Takes solution k from the least variable on: where the rows leave a choice, half of the solutions that
         * are left have 0 there and come before the others. There are as many choices as told.
         */
        long takeByNumber(long k, int choices) {
            int left = choices;
            for (int place = 0; place < n; place++) {
                if (hasOneValue(place)) {
                    take(place, rows.byHead[place] != 1L << place);
                } else {
                    left--;
                    take(place, (k >>> left & 1L) != 0L);
                }
            }
            return ones;
        }

        /** Takes all that follows; false if it fails. */
        boolean spread(Store store) {
            boolean more = true;
            for (int round = 0; more && !rows.impossible && round <= MOST_VARIABLES; round++) {
                takeFromRows();
                long before = taken;
                if (!takeFromClauses(store)) {
                    return false;
                }
                more = taken != before;
            }
            return !rows.impossible;
        }

        boolean isFull() {
            return leastOpen() >= n;
        }

        int leastOpen() {
            return leastPlace(~taken);
        }

        /** In reduced rows a variable has one value just if it is a row by itself. */
        private boolean hasOneValue(int place) {
            return (rows.byHead[place] & ~RIGHT) == 1L << place;
        }

        private void takeFromRows() {
            for (int place = 0; place < n; place++) {
                if (hasOneValue(place)) {
                    take(place, rows.byHead[place] != 1L << place);
                }
            }
        }

        /** False if a clause, or the rows behind it, can't be right any more. */
        private boolean takeFromClauses(Store store) {
            for (int i = 0; i < store.clauseCount; i++) {
                long yes = store.yes[i];
                long no = store.no[i];
                if ((yes & ones) != 0L || (no & taken & ~ones) != 0L) {
                    continue;
                }
                long open = (yes | no) & ~taken;
                if (open == 0L) {
                    return false;
                }
                if ((open & (open - 1L)) == 0L) {
                    take(leastPlace(open), (yes & open) != 0L);
                }
                if (rows.impossible) {
                    return false;
                }
            }
            return true;
        }
    }

    /** The search: one node is at work, and those where 1 is still to be taken are kept on a pile. */
    private static final class Search {
        private final int n;
        final Taking start;
        private final long[] pileRows;
        private final long[] pileTaken;
        private final long[] pileOnes;
        private int pileSize;
        int nodeCount;
        int modelCount;
        long lastModel;
        boolean cut;

        Search(int n) {
            this.n = n;
            start = new Taking(n);
            pileRows = new long[n * n];
            pileTaken = new long[n];
            pileOnes = new long[n];
        }

        void begin(Rows base) {
            start.begin(base);
            pileSize = 0;
            nodeCount = 0;
            modelCount = 0;
            cut = false;
        }

        /** Each turn is a node; if the turns end before the search does, it is cut. */
        void run(Store store, int limit, boolean toFirst) {
            for (int turn = 0; turn < limit; turn++) {
                nodeCount++;
                boolean goesOn = start.spread(store);
                if (goesOn && start.isFull()) {
                    modelCount++;
                    lastModel = start.ones;
                    if (toFirst) {
                        return;
                    }
                    goesOn = false;
                }
                if (goesOn) {
                    pile();
                    start.take(start.leastOpen(), false);
                } else if (unpile()) {
                    start.take(start.leastOpen(), true);
                } else {
                    return;
                }
            }
            cut = true;
        }

        /** Each kept node has a variable more taken than the one below it, so there are n at most. */
        private void pile() {
            if (pileSize < n) {
                System.arraycopy(start.rows.byHead, 0, pileRows, pileSize * n, n);
                pileTaken[pileSize] = start.taken;
                pileOnes[pileSize] = start.ones;
                pileSize++;
            }
        }

        private boolean unpile() {
            if (pileSize <= 0) {
                return false;
            }
            pileSize--;
            System.arraycopy(pileRows, pileSize * n, start.rows.byHead, 0, n);
            start.rows.impossible = false;
            start.taken = pileTaken[pileSize];
            start.ones = pileOnes[pileSize];
            return true;
        }
    }

    /** The gates among the clauses, in their order. */
    private static final class GateList {
        /** Bit a is 1 for each assignment a of four variables that has an even number of ones. */
        private static final int EVEN = 0x9669;

        /** A gate has two clauses at least, that no other gate has. */
        final long[] found = new long[MOST_TOLD];
        int size;

        void build(Store store) {
            size = 0;
            long set = 0L;
            for (int turn = 0; turn < store.clauseCount; turn++) {
                set = leastSetAbove(store, set);
                if (set == 0L) {
                    return;
                }
                addGatesOf(store, set);
            }
        }

        /** The least set above this one that is of two to four variables and just those of a clause; or 0. */
        private static long leastSetAbove(Store store, long below) {
            long least = 0L;
            for (int i = 0; i < store.clauseCount; i++) {
                long set = store.yes[i] | store.no[i];
                int size = Long.bitCount(set);
                if (size >= 2 && size <= 4 && set > below && (least == 0L || set < least)) {
                    least = set;
                }
            }
            return least;
        }

        private void addGatesOf(Store store, long set) {
            int wrong = 0;
            for (int i = 0; i < store.clauseCount; i++) {
                if ((store.yes[i] | store.no[i]) == set) {
                    wrong |= 1 << pressed(store.no[i], set);
                }
            }
            int all = (1 << (1 << Long.bitCount(set))) - 1;
            if ((~wrong & all & ~EVEN) == 0) {
                add(set);
            }
            if ((~wrong & all & EVEN) == 0) {
                add(set | RIGHT);
            }
        }

        /** The variables of a part of a set of up to four, as bits 0 .. 3 by their order in the set. */
        private static int pressed(long part, long set) {
            int bits = 0;
            long rest = set;
            for (int bit = 0; bit < 4; bit++) {
                long least = rest & -rest;
                if ((part & least) != 0L) {
                    bits |= 1 << bit;
                }
                rest ^= least;
            }
            return bits;
        }

        private void add(long gate) {
            if (size < MOST_TOLD) {
                found[size] = gate;
                size++;
            }
        }
    }
}
