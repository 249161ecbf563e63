import java.util.NoSuchElementException;
import java.util.function.IntPredicate;

/** Counts and prints the answers that are not as due. */
final class Check {
    private static final int CALLS_PER_OBJECT = 256;

    private int wrong = 0;

    interface Steps {
        void on(DiagramBench bench);
    }

    void equal(String what, long got, long due) {
        if (got != due) {
            wrong++;
            System.out.println(what + ": got " + got + ", due is " + due);
        }
    }

    void isTrue(String what, boolean got) {
        equal(what, got ? 1 : 0, 1);
    }

    void isFalse(String what, boolean got) {
        equal(what, got ? 1 : 0, 0);
    }

    /** Looks at all 1024 assignments, with new objects in between: one is good for 512 calls only. */
    void table(String what, Steps steps, int register, IntPredicate due) {
        for (int from = 0; from < 1024; from += CALLS_PER_OBJECT) {
            DiagramBench bench = new DiagramBench();
            steps.on(bench);
            for (int s = from; s < from + CALLS_PER_OBJECT; s++) {
                if (bench.is(register, s) != due.test(s)) {
                    wrong++;
                    System.out.println(what + ": wrong for assignment " + s);
                    return;
                }
            }
        }
    }

    void noSuchElement(String what, DiagramBench bench, Steps call) {
        equal(what + " throws", thrownBy(bench, call), 2);
    }

    /** The call throws IllegalArgumentException and all registers stay as the steps left them. */
    void illegal(String what, Steps steps, Steps call) {
        DiagramBench bench = new DiagramBench();
        steps.on(bench);
        DiagramBench untouched = new DiagramBench();
        steps.on(untouched);
        equal(what + " throws", thrownBy(bench, call), 1);
        for (int r = 0; r < 16; r++) {
            equal(what + " leaves ways of " + r, bench.ways(r), untouched.ways(r));
            equal(what + " leaves hangs of " + r, bench.hangs(r), untouched.hangs(r));
            equal(what + " leaves parts of " + r, bench.parts(r), untouched.parts(r));
        }
    }

    private static int thrownBy(DiagramBench bench, Steps call) {
        try {
            call.on(bench);
            return 0;
        } catch (RuntimeException e) {
            if (e.getClass() == IllegalArgumentException.class) {
                return 1;
            }
            return e.getClass() == NoSuchElementException.class ? 2 : 3;
        }
    }

    void end() {
        System.out.println(wrong == 0 ? "all as due" : wrong + " wrong");
        if (wrong != 0) {
            System.exit(1);
        }
    }
}
