import java.util.NoSuchElementException;
import java.util.function.IntPredicate;

/** Counts and prints the answers that are not as due. */
final class Check {
    private static final int CALLS_PER_OBJECT = 256;

    private int wrong = 0;
    private int looks = 0;
    private String place = "";

    interface Steps {
        void on(DiagramBench bench);
    }

    /** Runs the test of one sentence of the document; what is wrong is told with the sentence. */
    void sentence(String words, Runnable test) {
        place = "'" + words + "': ";
        int before = looks;
        try {
            test.run();
        } catch (RuntimeException e) {
            fail("the test ended with " + e);
        }
        if (looks == before) {
            fail("the test looked at nothing");
        }
        place = "";
    }

    private void fail(String what) {
        wrong++;
        System.out.println(place + what);
    }

    void equal(String what, long got, long due) {
        looks++;
        if (got != due) {
            fail(what + ": got " + got + ", due is " + due);
        }
    }

    void isTrue(String what, boolean got) {
        equal(what, got ? 1 : 0, 1);
    }

    void isFalse(String what, boolean got) {
        equal(what, got ? 1 : 0, 0);
    }

    /** Looks at all 1024 assignments, with new objects in between: one is good for 512 calls only. */
    void table(String what, Steps steps, int register, IntPredicate due) {
        looks++;
        for (int from = 0; from < 1024; from += CALLS_PER_OBJECT) {
            DiagramBench bench = new DiagramBench();
            steps.on(bench);
            for (int s = from; s < from + CALLS_PER_OBJECT; s++) {
                if (bench.is(register, s) != due.test(s)) {
                    fail(what + ": wrong for assignment " + s);
                    return;
                }
            }
        }
    }

    void nothingThrown(String what, DiagramBench bench, Steps call) {
        equal(what + " throws", thrownBy(bench, call), 0);
    }

    void illegalArgument(String what, DiagramBench bench, Steps call) {
        equal(what + " throws", thrownBy(bench, call), 1);
    }

    void noSuchElement(String what, DiagramBench bench, Steps call) {
        equal(what + " throws", thrownBy(bench, call), 2);
    }

    /** The call throws IllegalArgumentException and all registers stay as the steps left them. */
    void illegal(String what, Steps steps, Steps call) {
        DiagramBench bench = new DiagramBench();
        steps.on(bench);
        DiagramBench untouched = new DiagramBench();
        steps.on(untouched);
        illegalArgument(what, bench, call);
        for (int r = 0; r < 16; r++) {
            equal(what + " leaves ways of " + r, bench.ways(r), untouched.ways(r));
            equal(what + " leaves hangs of " + r, bench.hangs(r), untouched.hangs(r));
            equal(what + " leaves parts of " + r, bench.parts(r), untouched.parts(r));
        }
    }

    /** The call throws IllegalArgumentException and the pairs stay as they were, answer by answer. */
    void refused(String what, Steps call) {
        DiagramBench bench = new DiagramBench();
        Samples.makePairs(bench);
        illegalArgument(what, bench, call);
        pairsStand(what, bench);
    }

    /** Each of the pairs of makePairs is a pair still; a call that changed one register would part it. */
    void pairsStand(String what, DiagramBench bench) {
        for (int r = 0; r < 8; r++) {
            isTrue(what + " leaves registers " + r + " and " + (r + 8), bench.same(r, r + 8));
            equal(what + " leaves ways of " + r, bench.ways(r), Samples.PAIR_WAYS[r]);
        }
    }

    private static int thrownBy(DiagramBench bench, Steps call) {
        try {
            call.on(bench);
            return 0;
        } catch (RuntimeException e) {
            if (e.getClass() == IllegalArgumentException.class) {
                return 1;
            }
            return e.getClass() == NoSuchElementException.class ? 2 : 3;
        }
    }

    void end() {
        System.out.println(wrong == 0 ? "all as due" : wrong + " wrong");
        if (wrong != 0) {
            System.exit(1);
        }
    }
}
