/** Nothing is promised beyond the answers and state changes described: nothing else comes to pass. */
public final class NotPromisedTest extends Samples {
    private static final Check CHECK = new Check();

    private static DiagramBench pairs() {
        DiagramBench b = new DiagramBench();
        makePairs(b);
        return b;
    }

    /** The answer of each asking call, one number for all of its arguments of interest. */
    private static long ask(DiagramBench b, int which, int r) {
        switch (which) {
            case 0:
                return b.is(r, 1023) ? 1 : 0;
            case 1:
                return b.ways(r);
            case 2:
                return b.ways(r) == 0 ? -1 : b.first(r);
            case 3:
                return b.hangs(r);
            case 4:
                return b.same(r, (r + 8) % 16) ? 1 : 0;
            case 5:
                return b.parts(r);
            default:
                return b.together(r, 16);
        }
    }

    private static final String[] ASKING = {"is", "ways", "first", "hangs", "same", "parts", "together"};

    private static void askingChangesNothing() {
        for (int which = 0; which < ASKING.length; which++) {
            for (int r = 0; r < 16; r++) {
                DiagramBench b = pairs();
                long answer = ask(b, which, r);
                CHECK.pairsStand(ASKING[which] + " of " + r, b);
                CHECK.equal(ASKING[which] + " of " + r + " once more", ask(b, which, r), answer);
            }
        }
    }

    /** What one call leaves in its working rows must not reach the answer of another. */
    private static void askingInAnyOrder() {
        for (int before = 0; before < ASKING.length; before++) {
            for (int which = 0; which < ASKING.length; which++) {
                for (int r = 0; r < 16; r++) {
                    DiagramBench b = pairs();
                    ask(b, before, 15 - r);
                    long due = ask(pairs(), which, r);
                    CHECK.equal(ASKING[which] + " of " + r + " behind " + ASKING[before], ask(b, which, r), due);
                }
            }
        }
    }

    private static void write(DiagramBench b, int step) {
        int to = step * 7 % 16;
        int a = step * 5 % 16;
        int other = step * 11 % 16;
        switch (step % 8) {
            case 0:
                b.variable(to, step % 10);
                break;
            case 1:
                b.only(to, step * 37 % 1024);
                break;
            case 2:
                b.join(to, step % 5, a, other);
                break;
            case 3:
                b.choose(to, a, other, (a + 3) % 16);
                break;
            case 4:
                b.cut(to, a, step % 10, step % 3 == 0);
                break;
            case 5:
                b.put(to, a, step % 10, other);
                break;
            case 6:
                b.bound(to, a, 1 << step % 10, step % 3 == 0);
                break;
            default:
                b.swap(to, a, step % 10, step / 10 % 10);
                break;
        }
    }

    private static void compareAll(String what, DiagramBench got, DiagramBench due) {
        for (int which = 0; which < ASKING.length; which++) {
            for (int r = 0; r < 16; r++) {
                CHECK.equal(what + ", " + ASKING[which] + " of " + r, ask(got, which, r), ask(due, which, r));
            }
        }
    }

    private static void sameCallsSameAnswers() {
        DiagramBench b = pairs();
        DiagramBench c = pairs();
        for (int step = 0; step < 200; step++) {
            write(b, step);
        }
        for (int step = 0; step < 200; step++) {
            write(c, step);
        }
        compareAll("one object behind the other", b, c);
    }

    private static void objectsApart() {
        DiagramBench alone = pairs();
        for (int step = 0; step < 200; step++) {
            write(alone, step);
        }
        DiagramBench b = pairs();
        DiagramBench other = new DiagramBench();
        for (int step = 0; step < 200; step++) {
            write(other, step + 3);
            write(b, step);
            other.together(0, 16);
        }
        compareAll("by turns with another object", b, alone);
    }

    public static void main(String[] args) {
        CHECK.sentence("Nothing beyond the answers: asking changes nothing", NotPromisedTest::askingChangesNothing);
        CHECK.sentence("Nothing beyond the answers: asking in any order", NotPromisedTest::askingInAnyOrder);
        CHECK.sentence("Nothing beyond the state changes: the same calls", NotPromisedTest::sameCallsSameAnswers);
        CHECK.sentence("Nothing beyond the state changes: two objects", NotPromisedTest::objectsApart);
        CHECK.end();
    }
}
