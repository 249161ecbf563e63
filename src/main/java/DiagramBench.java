import java.util.Arrays;
import java.util.NoSuchElementException;

/**
 * Sixteen registers, each with a function of ten variables.
 *
 * <p>A function is held as its 1024 answers, bit by bit, so that two functions are the same just if
 * their rows are, and no run of calls can use up room. The decision diagram with its shared nodes is
 * made out of the rows when its nodes are to be counted.
 */
public final class DiagramBench {
    private static final int VARIABLES = 10;
    private static final int ASSIGNMENTS = 1 << VARIABLES;
    private static final int REGISTERS = 16;
    private static final int KINDS = 5;

    /** The variables 0 to 5 are told by the place in a word, the others by the word's number. */
    private static final int VARIABLES_IN_WORD = 6;
    private static final int PLACE_MASK = (1 << VARIABLES_IN_WORD) - 1;
    private static final int WORDS = ASSIGNMENTS >> VARIABLES_IN_WORD;

    /** For each variable that is told by the place in a word: the places where it is true. */
    private static final long[] TRUE_PLACES = {
        0xAAAAAAAAAAAAAAAAL,
        0xCCCCCCCCCCCCCCCCL,
        0xF0F0F0F0F0F0F0F0L,
        0xFF00FF00FF00FF00L,
        0xFFFF0000FFFF0000L,
        0xFFFFFFFF00000000L
    };

    private final long[][] held;
    /** Two rows to work in, so that no call makes one of its own. */
    private final long[] work;
    private final long[] spare;
    private final Diagram diagram;

    public DiagramBench() {
        held = new long[REGISTERS][WORDS];
        work = new long[WORDS];
        spare = new long[WORDS];
        diagram = new Diagram();
    }

    public void variable(int to, int v) throws IllegalArgumentException {
        checkRegister(to);
        checkVariable(v);
        for (int i = 0; i < WORDS; i++) {
            held[to][i] = variableWord(v, i);
        }
    }

    public void only(int to, int assignment) throws IllegalArgumentException {
        checkRegister(to);
        checkAssignment(assignment);
        Arrays.fill(held[to], 0L);
        held[to][assignment >> VARIABLES_IN_WORD] = 1L << (assignment & PLACE_MASK);
    }

    public void join(int to, int kind, int a, int b) throws IllegalArgumentException {
        checkRegister(to);
        checkKind(kind);
        checkRegister(a);
        checkRegister(b);
        for (int i = 0; i < WORDS; i++) {
            held[to][i] = joinedWord(kind, held[a][i], held[b][i]);
        }
    }

    public void choose(int to, int a, int b, int c) throws IllegalArgumentException {
        checkRegister(to);
        checkRegister(a);
        checkRegister(b);
        checkRegister(c);
        for (int i = 0; i < WORDS; i++) {
            held[to][i] = chosenWord(held[a][i], held[b][i], held[c][i]);
        }
    }

    public void cut(int to, int a, int v, boolean value) throws IllegalArgumentException {
        checkRegister(to);
        checkRegister(a);
        checkVariable(v);
        for (int i = 0; i < WORDS; i++) {
            work[i] = fixedWord(held[a], v, value, i);
        }
        store(work, to);
    }

    public void put(int to, int a, int v, int b) throws IllegalArgumentException {
        checkRegister(to);
        checkRegister(a);
        checkVariable(v);
        checkRegister(b);
        for (int i = 0; i < WORDS; i++) {
            long ifTrue = fixedWord(held[a], v, true, i);
            long ifFalse = fixedWord(held[a], v, false, i);
            work[i] = chosenWord(held[b][i], ifTrue, ifFalse);
        }
        store(work, to);
    }

    public void bound(int to, int a, int set, boolean every) throws IllegalArgumentException {
        checkRegister(to);
        checkRegister(a);
        checkSet(set);
        System.arraycopy(held[a], 0, work, 0, WORDS);
        for (int v = 0; v < VARIABLES; v++) {
            if (isIn(set, v)) {
                bindWork(v, every);
            }
        }
        store(work, to);
    }

    public void swap(int to, int a, int v, int w) throws IllegalArgumentException {
        checkRegister(to);
        checkRegister(a);
        checkVariable(v);
        checkVariable(w);
        for (int i = 0; i < WORDS; i++) {
            work[i] = turnedWord(held[a], v, i);
        }
        for (int i = 0; i < WORDS; i++) {
            // Changing places is turning both, but only where the two differ.
            long differ = variableWord(v, i) ^ variableWord(w, i);
            spare[i] = chosenWord(differ, turnedWord(work, w, i), held[a][i]);
        }
        store(spare, to);
    }

    public boolean is(int a, int assignment) throws IllegalArgumentException {
        checkRegister(a);
        checkAssignment(assignment);
        return bitOf(held[a], assignment) != 0;
    }

    public int ways(int a) throws IllegalArgumentException {
        checkRegister(a);
        int count = 0;
        for (int i = 0; i < WORDS; i++) {
            count += Long.bitCount(held[a][i]);
        }
        return count;
    }

    public int first(int a) throws IllegalArgumentException, NoSuchElementException {
        checkRegister(a);
        System.arraycopy(held[a], 0, work, 0, WORDS);
        if (isEmptyWork()) {
            throw new NoSuchElementException("true for no assignment");
        }
        int assignment = 0;
        for (int v = 0; v < VARIABLES; v++) {
            if (!narrowWorkToFalse(v)) {
                assignment |= 1 << v;
            }
        }
        return assignment;
    }

    public int hangs(int a) throws IllegalArgumentException {
        checkRegister(a);
        int set = 0;
        for (int v = 0; v < VARIABLES; v++) {
            if (hangsOn(held[a], v)) {
                set |= 1 << v;
            }
        }
        return set;
    }

    public boolean same(int a, int b) throws IllegalArgumentException {
        checkRegister(a);
        checkRegister(b);
        for (int i = 0; i < WORDS; i++) {
            if (held[a][i] != held[b][i]) {
                return false;
            }
        }
        return true;
    }

    public int parts(int a) throws IllegalArgumentException {
        checkRegister(a);
        return countNodes(a, a + 1);
    }

    public int together(int a, int b) throws IllegalArgumentException {
        if (a < 0 || a >= b || b > REGISTERS) {
            throw new IllegalArgumentException("no such range of registers");
        }
        return countNodes(a, b);
    }

    private static void checkRegister(int register) {
        if (register < 0 || register >= REGISTERS) {
            throw new IllegalArgumentException("no such register");
        }
    }

    private static void checkVariable(int v) {
        if (v < 0 || v >= VARIABLES) {
            throw new IllegalArgumentException("no such variable");
        }
    }

    private static void checkAssignment(int assignment) {
        if (assignment < 0 || assignment >= ASSIGNMENTS) {
            throw new IllegalArgumentException("no such assignment");
        }
    }

    private static void checkSet(int set) {
        if (set < 0 || set >= 1 << VARIABLES) {
            throw new IllegalArgumentException("no such set");
        }
    }

    private static void checkKind(int kind) {
        if (kind < 0 || kind >= KINDS) {
            throw new IllegalArgumentException("no such kind");
        }
    }

    private static boolean isIn(int set, int v) {
        return ((set >> v) & 1) != 0;
    }

    private static int bitOf(long[] row, int assignment) {
        long word = row[assignment >> VARIABLES_IN_WORD];
        return (int) ((word >>> (assignment & PLACE_MASK)) & 1L);
    }

    private static long joinedWord(int kind, long a, long b) {
        switch (kind) {
            case 0:
                return a & b;
            case 1:
                return a | b;
            case 2:
                return a ^ b;
            case 3:
                return ~a | b;
            default:
                return ~a;
        }
    }

    private static long chosenWord(long which, long ifTrue, long ifFalse) {
        return (which & ifTrue) | (~which & ifFalse);
    }

    /** Word i of the function that is variable v. */
    private static long variableWord(int v, int i) {
        if (v < VARIABLES_IN_WORD) {
            return TRUE_PLACES[v];
        }
        return isIn(i, v - VARIABLES_IN_WORD) ? -1L : 0L;
    }

    /** Word i of what the row says when variable v is turned. */
    private static long turnedWord(long[] row, int v, int i) {
        if (v < VARIABLES_IN_WORD) {
            long places = TRUE_PLACES[v];
            int distance = 1 << v;
            return ((row[i] & places) >>> distance) | ((row[i] & ~places) << distance);
        }
        return row[i ^ (1 << (v - VARIABLES_IN_WORD))];
    }

    /** Word i of what the row says when variable v has the value, whatever it is. */
    private static long fixedWord(long[] row, int v, boolean value, int i) {
        long fits = value ? variableWord(v, i) : ~variableWord(v, i);
        return chosenWord(fits, row[i], turnedWord(row, v, i));
    }

    private static boolean hangsOn(long[] row, int v) {
        for (int i = 0; i < WORDS; i++) {
            if (row[i] != turnedWord(row, v, i)) {
                return true;
            }
        }
        return false;
    }

    private void store(long[] row, int to) {
        System.arraycopy(row, 0, held[to], 0, WORDS);
    }

    private void bindWork(int v, boolean every) {
        for (int i = 0; i < WORDS; i++) {
            long turned = turnedWord(work, v, i);
            spare[i] = every ? work[i] & turned : work[i] | turned;
        }
        System.arraycopy(spare, 0, work, 0, WORDS);
    }

    private boolean isEmptyWork() {
        for (int i = 0; i < WORDS; i++) {
            if (work[i] != 0L) {
                return false;
            }
        }
        return true;
    }

    /** Drops the assignments in which v is true, unless none would be left; answers whether it did. */
    private boolean narrowWorkToFalse(int v) {
        long left = 0L;
        for (int i = 0; i < WORDS; i++) {
            spare[i] = work[i] & ~variableWord(v, i);
            left |= spare[i];
        }
        if (left == 0L) {
            return false;
        }
        System.arraycopy(spare, 0, work, 0, WORDS);
        return true;
    }

    /** The parts of functions are the nodes of their shared diagram, leaves left out. */
    private int countNodes(int from, int before) {
        diagram.clear();
        for (int register = from; register < before; register++) {
            diagram.take(held[register]);
        }
        return diagram.nodeCount;
    }

    /** A decision diagram, variable 0 on top, in which each node stands once. */
    private static final class Diagram {
        /**
         * Sixteen functions have at most 2286 nodes: 16 * 2^k for variable k up to 6, and 240, 12
         * and 2 for the last three, as there are no more functions of so few variables.
         */
        private static final int SLOT_BITS = 12;
        private static final int SLOTS = 1 << SLOT_BITS;
        /** The names 0 and 1 are the leaves'; a node's name is its slot behind these. */
        private static final int LEAVES = 2;
        private static final int NAME_BITS = SLOT_BITS + 1;
        private static final int SPREAD = 0x9E3779B1;

        /** What tells each node from others; 0 in a free slot, as no node has leaf 0 twice. */
        private final int[] keys;
        private final int[] names;
        private int nodeCount;

        private Diagram() {
            keys = new int[SLOTS];
            names = new int[ASSIGNMENTS];
            nodeCount = 0;
        }

        private void clear() {
            Arrays.fill(keys, 0);
            nodeCount = 0;
        }

        /** Folds the row from the last variable up: each round halves the names that are left. */
        private void take(long[] row) {
            for (int i = 0; i < ASSIGNMENTS; i++) {
                names[i] = bitOf(row, i);
            }
            for (int v = VARIABLES - 1; v >= 0; v--) {
                int half = 1 << v;
                for (int i = 0; i < half; i++) {
                    names[i] = nameOf(v, names[i], names[i + half]);
                }
            }
        }

        private int nameOf(int v, int ifFalse, int ifTrue) {
            if (ifFalse == ifTrue) {
                return ifFalse;
            }
            int key = (v << (2 * NAME_BITS)) | (ifFalse << NAME_BITS) | ifTrue;
            return slotOf(key) + LEAVES;
        }

        private int slotOf(int key) {
            int slot = (key * SPREAD) >>> (32 - SLOT_BITS);
            for (int tries = 0; tries < SLOTS; tries++) {
                if (keys[slot] == key) {
                    return slot;
                }
                if (keys[slot] == 0) {
                    keys[slot] = key;
                    nodeCount++;
                    return slot;
                }
                slot = (slot + 1) & (SLOTS - 1);
            }
            return 0;
        }
    }
}
