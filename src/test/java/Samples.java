/** Inputs that are none, and registers filled with functions that are known: for tests to extend. */
abstract class Samples {
    static final int MIN = Integer.MIN_VALUE;
    static final int MAX = Integer.MAX_VALUE;

    // Beside the next ones below and above: numbers that a mask or a shift would wrap to a good one.
    static final int[] NO_REGISTER = {-1, 16, 17, 31, 32, 256, -15, -16, MIN, MIN + 15, MAX};
    static final int[] NO_VARIABLE = {-1, 10, 11, 15, 16, 31, 32, 33, 64, -22, -32, MIN, MIN + 9, MAX};
    static final int[] NO_NUMBER = {-1, 1024, 1025, 2047, 2048, 65536, -1023, -1024, MIN, MIN + 1, MAX};
    static final int[] NO_KIND = {-1, 5, 6, 7, 8, 9, 256, -4, MIN, MIN + 4, MAX};

    static final int FULLEST_CALLS = 18 + 8 + 11 + 15;

    static final boolean[] BOTH = {false, true};

    static boolean bit(int s, int v) {
        return (s >> v & 1) != 0;
    }

    static int with(int s, int v, boolean value) {
        return value ? s | 1 << v : s & ~(1 << v);
    }

    static int changed(int s, int v, int w) {
        return with(with(s, v, bit(s, w)), w, bit(s, v));
    }

    /** What makeMixed leaves in register 0: it hangs on all variables, and on no two of them alike. */
    static boolean mixed(int s) {
        return inner(s) || bit(s, 4) && bit(s, 6);
    }

    /** What makeMixed leaves in register 10. */
    static boolean inner(int s) {
        boolean x = bit(s, 0) && bit(s, 7) != bit(s, 3);
        boolean y = bit(s, 1) ? bit(s, 9) || bit(s, 2) : bit(s, 5) && !bit(s, 8);
        return x != y;
    }

    /** Registers 1 to 9 are the variables of their numbers. */
    static void makeMixed(DiagramBench b) {
        for (int v = 0; v < 10; v++) {
            b.variable(v, v);
        }
        b.join(10, 2, 7, 3);
        b.join(10, 0, 0, 10);
        b.join(11, 1, 9, 2);
        b.join(12, 4, 8, 0);
        b.join(12, 0, 5, 12);
        b.choose(11, 1, 11, 12);
        b.join(10, 2, 10, 11);
        b.join(11, 0, 4, 6);
        b.join(0, 1, 10, 11);
    }

    static boolean parity(int s) {
        return Integer.bitCount(s) % 2 == 1;
    }

    /** Register to is the parity of all variables, register with is variable 9. */
    static void makeParity(DiagramBench b, int to, int with) {
        b.variable(to, 0);
        for (int v = 1; v < 10; v++) {
            b.variable(with, v);
            b.join(to, 2, to, with);
        }
    }

    /**
     * Registers 0 to 7: a mixed function, variables 0 and 9, just the first and just the last
     * assignment, false, true, parity. Registers 8 to 15: the same once more.
     */
    static void makePairs(DiagramBench b) {
        makeMixed(b);
        makeParity(b, 7, 1);
        b.variable(1, 0);
        b.variable(2, 9);
        b.only(3, 0);
        b.only(4, 1023);
        b.join(5, 2, 1, 1);
        b.join(6, 4, 5, 5);
        for (int r = 0; r < 8; r++) {
            b.choose(r + 8, r, r, r);
        }
    }

    static final int[] PAIR_WAYS = {640, 512, 512, 1, 1, 0, 1024, 512};

    /** What makePairs leaves in a register. */
    static boolean pair(int register, int s) {
        switch (register % 8) {
            case 0:
                return mixed(s);
            case 1:
                return bit(s, 0);
            case 2:
                return bit(s, 9);
            case 3:
                return s == 0;
            case 4:
                return s == 1023;
            case 5:
                return false;
            case 6:
                return true;
            default:
                return parity(s);
        }
    }

    /**
     * Sixteen functions with as many different parts as sixteen can have, 2286, in FULLEST_CALLS calls.
     *
     * <p>What is left of register r when variables 0 to 5 have values is a table of 16 answers that
     * tells those values and r; so no two are the same, and their halves are all functions of the
     * last three variables.
     */
    static void makeFullest(DiagramBench b) {
        b.variable(1, 7);
        b.variable(2, 8);
        b.variable(3, 9);
        b.variable(4, 0);
        b.variable(5, 6);
        b.join(4, 2, 4, 5);
        b.variable(5, 1);
        b.choose(4, 1, 5, 4);
        b.variable(5, 2);
        b.variable(6, 3);
        b.choose(5, 1, 6, 5);
        b.choose(4, 2, 5, 4);
        b.variable(5, 4);
        b.variable(6, 5);
        b.choose(5, 1, 6, 5);
        b.join(6, 4, 2, 2);
        b.join(5, 0, 5, 6);
        b.choose(0, 3, 5, 4);
        for (int i = 0; i < 4; i++) {
            b.only(1 << i, 12 + i << 6);
            b.bound(1 << i, 1 << i, 63, false);
        }
        for (int r = 1; r < 16; r++) {
            if ((r & r - 1) != 0) {
                b.join(r, 2, r & r - 1, r & -r);
            }
        }
        for (int r = 1; r < 16; r++) {
            b.join(r, 2, r, 0);
        }
    }
}
