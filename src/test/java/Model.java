import java.util.HashSet;
import java.util.NoSuchElementException;
import java.util.Set;

/** The document's words in their slowest form, one assignment after the other. */
final class Model {
    private boolean[][] held = new boolean[16][1024];

    private interface Function {
        boolean at(int s);
    }

    private static void need(boolean fine) {
        if (!fine) {
            throw new IllegalArgumentException();
        }
    }

    private static boolean register(int r) {
        return 0 <= r && r <= 15;
    }

    private static boolean isVariable(int v) {
        return 0 <= v && v <= 9;
    }

    private static boolean number(int n) {
        return 0 <= n && n <= 1023;
    }

    private static int with(int s, int v, boolean value) {
        return value ? s | 1 << v : s & ~(1 << v);
    }

    private static boolean bit(int s, int v) {
        return (s & 1 << v) != 0;
    }

    private void set(int to, Function f) {
        boolean[] row = new boolean[1024];
        for (int s = 0; s < 1024; s++) {
            row[s] = f.at(s);
        }
        held[to] = row;
    }

    void variable(int to, int v) {
        need(register(to) && isVariable(v));
        set(to, s -> bit(s, v));
    }

    void only(int to, int assignment) {
        need(register(to) && number(assignment));
        set(to, s -> s == assignment);
    }

    void join(int to, int kind, int a, int b) {
        need(register(to) && 0 <= kind && kind <= 4 && register(a) && register(b));
        boolean[] f = held[a];
        boolean[] g = held[b];
        set(to, s -> kind == 0 ? f[s] && g[s]
                : kind == 1 ? f[s] || g[s]
                : kind == 2 ? f[s] != g[s]
                : kind == 3 ? !f[s] || g[s]
                : !f[s]);
    }

    void choose(int to, int a, int b, int c) {
        need(register(to) && register(a) && register(b) && register(c));
        boolean[] f = held[a];
        boolean[] g = held[b];
        boolean[] h = held[c];
        set(to, s -> f[s] ? g[s] : h[s]);
    }

    void cut(int to, int a, int v, boolean value) {
        need(register(to) && register(a) && isVariable(v));
        boolean[] f = held[a];
        set(to, s -> f[with(s, v, value)]);
    }

    void put(int to, int a, int v, int b) {
        need(register(to) && register(a) && isVariable(v) && register(b));
        boolean[] f = held[a];
        boolean[] g = held[b];
        set(to, s -> f[with(s, v, g[s])]);
    }

    void bound(int to, int a, int set, boolean every) {
        need(register(to) && register(a) && number(set));
        boolean[] f = held[a];
        set(to, s -> {
            for (int t = 0; t < 1024; t++) {
                if ((t & ~set) == (s & ~set) && f[t] != every) {
                    return !every;
                }
            }
            return every;
        });
    }

    void swap(int to, int a, int v, int w) {
        need(register(to) && register(a) && isVariable(v) && isVariable(w));
        boolean[] f = held[a];
        set(to, s -> f[with(with(s, v, bit(s, w)), w, bit(s, v))]);
    }

    boolean is(int a, int assignment) {
        need(register(a) && number(assignment));
        return held[a][assignment];
    }

    int ways(int a) {
        need(register(a));
        int count = 0;
        for (boolean value : held[a]) {
            count += value ? 1 : 0;
        }
        return count;
    }

    private static boolean before(int s, int t) {
        for (int v = 0; v < 10; v++) {
            if (bit(s, v) != bit(t, v)) {
                return bit(t, v);
            }
        }
        return false;
    }

    int first(int a) {
        need(register(a));
        int best = -1;
        for (int s = 0; s < 1024; s++) {
            if (held[a][s] && (best < 0 || before(s, best))) {
                best = s;
            }
        }
        if (best < 0) {
            throw new NoSuchElementException();
        }
        return best;
    }

    int hangs(int a) {
        need(register(a));
        int set = 0;
        for (int v = 0; v < 10; v++) {
            for (int s = 0; s < 1024; s++) {
                if (held[a][s] != held[a][s ^ 1 << v]) {
                    set |= 1 << v;
                }
            }
        }
        return set;
    }

    boolean same(int a, int b) {
        need(register(a) && register(b));
        return java.util.Arrays.equals(held[a], held[b]);
    }

    int parts(int a) {
        need(register(a));
        return together(a, a + 1);
    }

    int together(int a, int b) {
        need(0 <= a && a < b && b <= 16);
        Set<String> all = new HashSet<>();
        for (int r = a; r < b; r++) {
            addParts(held[r], all);
        }
        return all.size();
    }

    private static void addParts(boolean[] f, Set<String> all) {
        for (int k = 0; k < 10; k++) {
            for (int values = 0; values < 1 << k; values++) {
                StringBuilder whole = new StringBuilder();
                boolean hangs = false;
                for (int s = 0; s < 1024; s++) {
                    int t = s & -(1 << k) | values;
                    whole.append(f[t] ? '1' : '0');
                    hangs |= f[t] != f[t ^ 1 << k];
                }
                if (hangs) {
                    all.add(whole.toString());
                }
            }
        }
    }
}
