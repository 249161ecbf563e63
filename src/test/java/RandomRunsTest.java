import java.util.NoSuchElementException;
import java.util.Random;

/** Long runs of calls of all kinds, with wrong inputs among them, held against the slow model. */
public final class RandomRunsTest {
    private static final int RUNS = 150;
    private static final int CALLS = 512;
    private static final int[] EDGES = {-1, 5, 10, 16, 17, 1024, Integer.MIN_VALUE, Integer.MAX_VALUE};

    private static final Check CHECK = new Check();

    private final Random random;
    private final DiagramBench bench = new DiagramBench();
    private final Model model = new Model();
    private final int strangeness;
    private final int registers;

    private RandomRunsTest(int run) {
        random = new Random(run);
        strangeness = run % 3 == 0 ? 40 : 400;
        registers = run % 4 == 0 ? 4 : 16;
    }

    private int number(int bound) {
        if (random.nextInt(strangeness) == 0) {
            return EDGES[random.nextInt(EDGES.length)];
        }
        return random.nextInt(bound);
    }

    private int register() {
        return number(registers);
    }

    private interface Call {
        long answer();
    }

    private static long outcome(Call call) {
        try {
            return call.answer();
        } catch (IllegalArgumentException e) {
            return -1000;
        } catch (NoSuchElementException e) {
            return -2000;
        }
    }

    private static long one(boolean value) {
        return value ? 1 : 0;
    }

    private void compare(String what, Call got, Call due) {
        CHECK.equal(what, outcome(got), outcome(due));
    }

    private void change(int which) {
        int to = register();
        int a = register();
        int b = register();
        int c = register();
        int v = number(10);
        int w = number(10);
        int n = random.nextBoolean() ? number(1024) : 1 << random.nextInt(10);
        int kind = number(5);
        boolean value = random.nextBoolean();
        switch (which) {
            case 0 -> compare("variable", () -> { bench.variable(to, v); return 0; }, () -> { model.variable(to, v); return 0; });
            case 1 -> compare("only", () -> { bench.only(to, n); return 0; }, () -> { model.only(to, n); return 0; });
            case 2 -> compare("choose", () -> { bench.choose(to, a, b, c); return 0; }, () -> { model.choose(to, a, b, c); return 0; });
            case 3 -> compare("cut", () -> { bench.cut(to, a, v, value); return 0; }, () -> { model.cut(to, a, v, value); return 0; });
            case 4 -> compare("put", () -> { bench.put(to, a, v, b); return 0; }, () -> { model.put(to, a, v, b); return 0; });
            case 5 -> compare("bound", () -> { bench.bound(to, a, n, value); return 0; }, () -> { model.bound(to, a, n, value); return 0; });
            case 6 -> compare("swap", () -> { bench.swap(to, a, v, w); return 0; }, () -> { model.swap(to, a, v, w); return 0; });
            default -> compare("join", () -> { bench.join(to, kind, a, b); return 0; }, () -> { model.join(to, kind, a, b); return 0; });
        }
    }

    private void ask(int which) {
        int a = register();
        int b = register();
        int n = number(1024);
        int before = number(17);
        switch (which) {
            case 0 -> compare("ways", () -> bench.ways(a), () -> model.ways(a));
            case 1 -> compare("first", () -> bench.first(a), () -> model.first(a));
            case 2 -> compare("hangs", () -> bench.hangs(a), () -> model.hangs(a));
            case 3 -> compare("same", () -> one(bench.same(a, b)), () -> one(model.same(a, b)));
            case 4 -> compare("parts", () -> bench.parts(a), () -> model.parts(a));
            case 5 -> compare("together", () -> bench.together(a, before), () -> model.together(a, before));
            default -> compare("is", () -> one(bench.is(a, n)), () -> one(model.is(a, n)));
        }
    }

    private void run() {
        for (int call = 0; call < CALLS; call++) {
            if (random.nextInt(3) < 2) {
                change(random.nextInt(12));
            } else {
                int which = random.nextInt(10);
                // The model is slow at these.
                boolean dear = which == 4 || which == 5;
                ask(dear && random.nextInt(8) != 0 ? 6 : which);
            }
        }
    }

    /** Functions with as many nodes as may be: random ones, which no short run of joins makes. */
    private static void manyParts() {
        Random random = new Random(7);
        Model model = new Model();
        DiagramBench bench = new DiagramBench();
        for (int call = 0; call < 448; call++) {
            int to = random.nextInt(16);
            int a = random.nextInt(16);
            int b = random.nextInt(16);
            int v = random.nextInt(10);
            if (call < 16) {
                bench.variable(call, call % 10);
                model.variable(call, call % 10);
            } else if (call % 3 == 0) {
                bench.swap(to, a, v, (v + 1 + call % 9) % 10);
                model.swap(to, a, v, (v + 1 + call % 9) % 10);
            } else if (call % 3 == 1) {
                bench.choose(to, a, b, call % 16);
                model.choose(to, a, b, call % 16);
            } else {
                bench.join(to, 2, a, b);
                model.join(to, 2, a, b);
            }
        }
        for (int r = 0; r < 16; r++) {
            CHECK.equal("parts of many", bench.parts(r), model.parts(r));
        }
        CHECK.equal("together of many", bench.together(0, 16), model.together(0, 16));
        CHECK.equal("together of many, the middle", bench.together(5, 11), model.together(5, 11));
    }

    public static void main(String[] args) {
        manyParts();
        for (int run = 0; run < RUNS; run++) {
            new RandomRunsTest(run).run();
        }
        CHECK.end();
    }
}
