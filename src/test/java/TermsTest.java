/** The sentences of the document's opening and of its 'Terms' that name an edge, one test each. */
public final class TermsTest extends Samples {
    private static final Check CHECK = new Check();
    private static final int MANY = 512;

    /** A call with one of its arguments left open. */
    private interface Open {
        void call(DiagramBench bench, int argument);
    }

    private static final class Place {
        final String name;
        final Open open;

        Place(String name, Open open) {
            this.name = name;
            this.open = open;
        }
    }

    // Where a register is written to, it is one that the refused call must leave: several kinds of them.
    private static final int[] GOALS = {0, 5, 6, 15};

    private static final Place[] REGISTER_PLACES = {
        new Place("variable to", (b, r) -> b.variable(r, 3)),
        new Place("only to", (b, r) -> b.only(r, 3)),
        new Place("join 0 to", (b, r) -> b.join(r, 0, 1, 2)),
        new Place("join 4 to", (b, r) -> b.join(r, 4, 1, 2)),
        new Place("join 0 a", (b, r) -> b.join(0, 0, r, 2)),
        new Place("join 1 a", (b, r) -> b.join(0, 1, r, 2)),
        new Place("join 2 a", (b, r) -> b.join(0, 2, r, 2)),
        new Place("join 3 a", (b, r) -> b.join(0, 3, r, 2)),
        new Place("join 4 a", (b, r) -> b.join(0, 4, r, 2)),
        new Place("join 0 b", (b, r) -> b.join(0, 0, 2, r)),
        new Place("join 1 b", (b, r) -> b.join(0, 1, 2, r)),
        new Place("join 2 b", (b, r) -> b.join(0, 2, 2, r)),
        new Place("join 3 b", (b, r) -> b.join(0, 3, 2, r)),
        new Place("choose to", (b, r) -> b.choose(r, 1, 2, 7)),
        new Place("choose a", (b, r) -> b.choose(0, r, 2, 7)),
        new Place("choose b", (b, r) -> b.choose(0, 1, r, 7)),
        new Place("choose b of none", (b, r) -> b.choose(0, 5, r, 7)),
        new Place("choose c", (b, r) -> b.choose(0, 1, 2, r)),
        new Place("choose c of none", (b, r) -> b.choose(0, 6, 2, r)),
        new Place("cut to", (b, r) -> b.cut(r, 7, 3, true)),
        new Place("cut a", (b, r) -> b.cut(0, r, 3, true)),
        new Place("put to", (b, r) -> b.put(r, 7, 3, 1)),
        new Place("put a", (b, r) -> b.put(0, r, 3, 1)),
        new Place("put b", (b, r) -> b.put(0, 7, 3, r)),
        new Place("put b that is not needed", (b, r) -> b.put(0, 5, 3, r)),
        new Place("bound to", (b, r) -> b.bound(r, 7, 9, true)),
        new Place("bound a", (b, r) -> b.bound(0, r, 9, true)),
        new Place("bound to, set 0", (b, r) -> b.bound(r, 7, 0, true)),
        new Place("bound a, set 0", (b, r) -> b.bound(0, r, 0, false)),
        new Place("swap to", (b, r) -> b.swap(r, 7, 3, 8)),
        new Place("swap a", (b, r) -> b.swap(0, r, 3, 8)),
        new Place("swap to, one variable", (b, r) -> b.swap(r, 7, 3, 3)),
        new Place("swap a, one variable", (b, r) -> b.swap(0, r, 3, 3)),
        new Place("is a", (b, r) -> b.is(r, 3)),
        new Place("ways a", (b, r) -> b.ways(r)),
        new Place("first a", (b, r) -> b.first(r)),
        new Place("hangs a", (b, r) -> b.hangs(r)),
        new Place("same a", (b, r) -> b.same(r, 1)),
        new Place("same b", (b, r) -> b.same(1, r)),
        new Place("same both", (b, r) -> b.same(r, r)),
        new Place("parts a", (b, r) -> b.parts(r))
    };

    private static Place[] variablePlaces(int to) {
        return new Place[] {
            new Place("variable v", (b, v) -> b.variable(to, v)),
            new Place("cut v, true", (b, v) -> b.cut(to, 0, v, true)),
            new Place("cut v, false", (b, v) -> b.cut(to, 7, v, false)),
            new Place("cut v of none", (b, v) -> b.cut(to, 5, v, false)),
            new Place("put v", (b, v) -> b.put(to, 0, v, 7)),
            new Place("put v of none", (b, v) -> b.put(to, 5, v, 7)),
            new Place("swap v", (b, v) -> b.swap(to, 0, v, 2)),
            new Place("swap w", (b, v) -> b.swap(to, 0, 2, v)),
            new Place("swap both", (b, v) -> b.swap(to, 7, v, v))
        };
    }

    private static void accepted(Place[] places, int from, int upTo) {
        for (Place place : places) {
            for (int n = from; n <= upTo; n++) {
                DiagramBench b = new DiagramBench();
                for (int r = 0; r < 16; r++) {
                    b.variable(r, r % 10);
                }
                int argument = n;
                CHECK.nothingThrown(place.name + " " + n, b, x -> place.open.call(x, argument));
            }
        }
    }

    private static void refused(Place[] places, int[] bad) {
        for (Place place : places) {
            for (int n : bad) {
                CHECK.refused(place.name + " " + n, x -> place.open.call(x, n));
            }
        }
    }

    private static void lastCallOfAll() {
        DiagramBench b = new DiagramBench();
        makeFullest(b);
        for (int call = FULLEST_CALLS + 1; call < MANY; call++) {
            CHECK.equal("call " + call, b.together(0, 16), 2286);
        }
        CHECK.equal("call 512", b.together(0, 16), 2286);
    }

    private static void lastCallBehindRefusedOnes() {
        DiagramBench b = new DiagramBench();
        b.variable(15, 9);
        for (int call = 2; call < MANY - 1; call++) {
            CHECK.noSuchElement("call " + call, b, x -> x.first(0));
        }
        CHECK.illegalArgument("call 511", b, x -> x.join(15, 5, 0, 0));
        CHECK.equal("call 512", b.first(15), 512);
    }

    private static void lastCallThatWrites() {
        DiagramBench b = new DiagramBench();
        b.only(0, 1023);
        for (int call = 2; call < MANY; call++) {
            b.join(0, 4, 0, 0);
        }
        CHECK.equal("call 512", b.ways(0), 1);
    }

    private static void variables() {
        accepted(variablePlaces(0), 0, 9);
        for (int to : GOALS) {
            refused(variablePlaces(to), NO_VARIABLE);
        }
    }

    private static void assignments() {
        DiagramBench b = new DiagramBench();
        b.join(1, 4, 0, 0);
        for (int s : new int[] {0, 1, 511, 512, 1022, 1023}) {
            b.only(0, s);
            CHECK.equal("only " + s, b.first(0), s);
            CHECK.isTrue("is " + s, b.is(0, s));
            CHECK.isFalse("is not " + s, b.is(0, 1023 - s));
            CHECK.isTrue("is of true " + s, b.is(1, s));
        }
        for (int bad : NO_NUMBER) {
            for (int to : GOALS) {
                CHECK.refused("only " + bad, x -> x.only(to, bad));
                CHECK.refused("is " + bad, x -> x.is(to, bad));
            }
        }
    }

    private static void bitsOfAssignments() {
        DiagramBench b = new DiagramBench();
        for (int v = 0; v < 10; v++) {
            b.variable(0, v);
            CHECK.isTrue("just bit " + v, b.is(0, 1 << v));
            CHECK.isFalse("all but bit " + v, b.is(0, 1023 ^ 1 << v));
            CHECK.isFalse("no bit, variable " + v, b.is(0, 0));
            CHECK.isTrue("all bits, variable " + v, b.is(0, 1023));
        }
    }

    private static int mark(int register) {
        return 1023 - 67 * register;
    }

    private static DiagramBench marked() {
        DiagramBench b = new DiagramBench();
        for (int r = 0; r < 16; r++) {
            b.only(r, mark(r));
        }
        return b;
    }

    private static void registers() {
        accepted(REGISTER_PLACES, 0, 15);
        refused(REGISTER_PLACES, NO_REGISTER);
    }

    private static void registersHoldOneEach() {
        for (int r = 0; r < 16; r++) {
            int from = r;
            int to = (r + 5) % 16;
            copies("join 0", to, from, x -> x.join(to, 0, from, from));
            copies("join 1", to, from, x -> x.join(to, 1, from, from));
            copies("choose", to, from, x -> x.choose(to, to, from, from));
            copies("bound", to, from, x -> x.bound(to, from, 0, true));
            copies("swap", to, from, x -> x.swap(to, from, 9, 9));
            copies("nothing", to, to, x -> x.ways(to));
        }
    }

    /** Behind the call register to holds what register from does, and all others hold what they did. */
    private static void copies(String what, int to, int from, Check.Steps call) {
        DiagramBench b = marked();
        call.on(b);
        for (int r = 0; r < 16; r++) {
            CHECK.equal(what + " " + from + " to " + to + ", register " + r, b.first(r), mark(r == to ? from : r));
            CHECK.equal(what + " " + from + " to " + to + ", ways of " + r, b.ways(r), 1);
        }
    }

    private static void falseAtFirst() {
        for (int r = 0; r < 16; r++) {
            CHECK.table("register " + r, x -> { }, r, s -> false);
        }
    }

    private static void hangsByOneAssignment() {
        for (int v = 0; v < 10; v++) {
            DiagramBench b = new DiagramBench();
            for (int s : new int[] {0, 1023, 682}) {
                b.only(0, s);
                CHECK.equal("one assignment", b.hangs(0), 1023);
                b.only(1, s ^ 1 << v);
                b.join(1, 1, 0, 1);
                CHECK.equal("one assignment and its turn in " + v, b.hangs(1), 1023 ^ 1 << v);
                b.variable(2, v);
                b.join(2, 2, 2, 0);
                CHECK.equal("variable " + v + " but for one assignment", b.hangs(2), 1023);
            }
        }
    }

    private static void hangsOnNoneTurned() {
        DiagramBench b = new DiagramBench();
        CHECK.equal("false", b.hangs(0), 0);
        b.join(0, 4, 0, 0);
        CHECK.equal("true", b.hangs(0), 0);
        makeMixed(b);
        b.join(1, 2, 0, 0);
        CHECK.equal("a function and itself", b.hangs(1), 0);
        b.join(1, 3, 0, 0);
        CHECK.equal("if it then it", b.hangs(1), 0);
    }

    private static void sets() {
        for (boolean every : BOTH) {
            for (int set : new int[] {0, 1, 511, 512, 1022, 1023}) {
                DiagramBench b = new DiagramBench();
                makeParity(b, 0, 1);
                CHECK.nothingThrown("set " + set, b, x -> x.bound(2, 0, set, every));
                CHECK.equal("set " + set, b.ways(2), set == 0 ? 512 : every ? 0 : 1024);
            }
            for (int bad : NO_NUMBER) {
                for (int to : GOALS) {
                    CHECK.refused("set " + bad, x -> x.bound(to, 7, bad, every));
                    CHECK.refused("set of false " + bad, x -> x.bound(to, 5, bad, every));
                }
            }
        }
    }

    private static void bitsOfSets() {
        for (int v = 0; v < 10; v++) {
            DiagramBench b = new DiagramBench();
            makeMixed(b);
            CHECK.equal("hangs on " + v, b.hangs(v == 0 ? 10 : v) & 1 << v, 1 << v);
            b.bound(15, 0, 1 << v, false);
            CHECK.equal("some, without " + v, b.hangs(15) & 1 << v, 0);
            b.only(14, 1023);
            b.bound(14, 14, 1023 ^ 1 << v, false);
            b.variable(13, v);
            CHECK.isTrue("some, but " + v, b.same(14, 13));
        }
    }

    private static void partIsItself() {
        DiagramBench b = new DiagramBench();
        b.variable(0, 0);
        CHECK.equal("variable 0", b.parts(0), 1);
        b.variable(1, 1);
        b.join(2, 0, 0, 1);
        CHECK.equal("variables 0 and 1", b.parts(2), 2);
        CHECK.equal("its parts are itself and variable 1", b.together(1, 3), 2);
        CHECK.equal("variable 0 is none of its parts", b.together(0, 3), 3);
    }

    private static void partHangsOnItsVariable() {
        DiagramBench b = new DiagramBench();
        for (int v = 0; v < 10; v++) {
            b.variable(0, v);
            CHECK.equal("variable " + v, b.parts(0), 1);
        }
        for (int v = 0; v < 9; v++) {
            b.variable(1, v);
            b.join(2, 0, 0, 1);
            CHECK.equal("variables 9 and " + v, b.parts(2), 2);
            b.join(2, 2, 0, 1);
            CHECK.equal("just one of 9 and " + v, b.parts(2), 3);
        }
    }

    private static void partsOfNone() {
        DiagramBench b = new DiagramBench();
        CHECK.equal("false", b.parts(0), 0);
        CHECK.equal("all false together", b.together(0, 16), 0);
        b.join(15, 4, 0, 0);
        CHECK.equal("true", b.parts(15), 0);
        CHECK.equal("false and true together", b.together(0, 16), 0);
        b.variable(1, 9);
        b.bound(1, 1, 512, false);
        CHECK.equal("true that was made of variable 9", b.parts(1), 0);
    }

    private static void samePartsAreOne() {
        DiagramBench b = new DiagramBench();
        makeParity(b, 0, 1);
        CHECK.equal("parity", b.parts(0), 19);
        b.variable(2, 0);
        b.variable(3, 1);
        b.join(4, 4, 3, 3);
        b.choose(5, 2, 3, 4);
        CHECK.equal("the same if 0, else not 1", b.parts(5), 3);
        b.choose(5, 2, 1, 1);
        CHECK.equal("variable 9 on both ways", b.parts(5), 1);
        b.only(6, 1023);
        b.only(7, 0);
        b.join(7, 1, 6, 7);
        CHECK.equal("all bits alike", b.parts(7), 19);
        b.only(7, 1022);
        b.join(7, 1, 6, 7);
        CHECK.equal("all bits but bit 0", b.parts(7), 9);
    }

    private static void partsOfTheFullest() {
        DiagramBench b = new DiagramBench();
        makeFullest(b);
        int most = 0;
        for (int r = 0; r < 16; r++) {
            int parts = b.parts(r);
            CHECK.equal("register " + r + " by itself", b.together(r, r + 1), parts);
            most = Math.max(most, parts);
        }
        CHECK.equal("one register", most, 127 + 128 + 12 + 2);
        CHECK.equal("all", b.together(0, 16), 16 * 127 + 240 + 12 + 2);
    }

    /** Each call that writes, told by five numbers. */
    private interface Write {
        void call(DiagramBench bench, int to, int a, int b, int n);
    }

    private static void madeOf(String what, int upTo, Write write) {
        int[] registers = {0, 1, 7, 4};
        for (int i = 0; i < 64; i++) {
            int to = registers[i & 3];
            int a = registers[i >> 2 & 3];
            int b = registers[i >> 4 & 3];
            for (int n = 0; n < upTo; n++) {
                DiagramBench x = new DiagramBench();
                makePairs(x);
                // The copies of the same registers, and a goal that is none of them: what is due.
                write.call(x, 13, a + 8, b + 8, n);
                write.call(x, to, a, b, n);
                String told = what + " to " + to + " of " + a + ", " + b + ", " + n;
                CHECK.isTrue(told, x.same(to, 13));
                for (int r = 0; r < 8; r++) {
                    if (r != to && r != 5) {
                        CHECK.isTrue(told + " leaves " + r, x.same(r, r + 8));
                    }
                }
            }
        }
    }

    private static void madeOfWhatWasHeld() {
        madeOf("join", 5, (x, to, a, b, n) -> x.join(to, n, a, b));
        madeOf("choose, a twice", 1, (x, to, a, b, n) -> x.choose(to, a, b, a));
        madeOf("choose, b twice", 1, (x, to, a, b, n) -> x.choose(to, b, b, a));
        madeOf("choose of 2", 1, (x, to, a, b, n) -> x.choose(to, 2, a, b));
        madeOf("choose of 3", 1, (x, to, a, b, n) -> x.choose(to, a, 2, b));
        madeOf("choose of 4", 1, (x, to, a, b, n) -> x.choose(to, a, b, 2));
        madeOf("cut", 20, (x, to, a, b, n) -> x.cut(to, a, n / 2, n % 2 == 1));
        madeOf("put", 10, (x, to, a, b, n) -> x.put(to, a, n, b));
        madeOf("bound, one", 20, (x, to, a, b, n) -> x.bound(to, a, 1 << n / 2, n % 2 == 1));
        madeOf("bound, many", 20, (x, to, a, b, n) -> x.bound(to, a, 1023 ^ 1 << n / 2, n % 2 == 1));
        madeOf("swap", 100, (x, to, a, b, n) -> x.swap(to, a, n / 10, n % 10));
    }

    private static void kinds() {
        for (int to : GOALS) {
            for (int bad : NO_KIND) {
                CHECK.refused("kind " + bad, x -> x.join(to, bad, 1, 2));
            }
        }
        for (int kind = 0; kind < 5; kind++) {
            int good = kind;
            CHECK.nothingThrown("kind " + kind, new DiagramBench(), x -> x.join(0, good, 1, 2));
        }
    }

    private static void severalThatAreNone() {
        CHECK.refused("variable, both", x -> x.variable(16, 10));
        CHECK.refused("only, both", x -> x.only(-1, 1024));
        CHECK.refused("join, all", x -> x.join(16, 5, -1, 16));
        CHECK.refused("join, kind and b", x -> x.join(0, 5, 1, 16));
        CHECK.refused("choose, all", x -> x.choose(16, 16, 16, 16));
        CHECK.refused("choose, b and c", x -> x.choose(0, 1, -1, 16));
        CHECK.refused("cut, all", x -> x.cut(16, -1, 10, true));
        CHECK.refused("put, all", x -> x.put(16, -1, 10, 16));
        CHECK.refused("put, v and b", x -> x.put(0, 7, 10, 16));
        CHECK.refused("bound, all", x -> x.bound(16, -1, 1024, false));
        CHECK.refused("swap, all", x -> x.swap(16, -1, 10, -1));
        CHECK.refused("swap, v and w", x -> x.swap(0, 7, -1, 10));
        CHECK.refused("is, both", x -> x.is(16, 1024));
        CHECK.refused("same, both", x -> x.same(-1, 16));
        CHECK.refused("together, both", x -> x.together(-1, 17));
    }

    private static void illegalBeforeNone() {
        for (int bad : NO_REGISTER) {
            CHECK.illegalArgument("first " + bad + " of a new object", new DiagramBench(), x -> x.first(bad));
        }
    }

    private static void nothingChangesBehindNone() {
        DiagramBench b = new DiagramBench();
        makePairs(b);
        CHECK.noSuchElement("first of false", b, x -> x.first(5));
        CHECK.pairsStand("first of false", b);
        CHECK.noSuchElement("first of false once more", b, x -> x.first(5));
        CHECK.equal("first of others", b.first(4), 1023);
    }

    public static void main(String[] args) {
        CHECK.sentence("An object is used for at most 512 calls", TermsTest::lastCallOfAll);
        CHECK.sentence("An object is used for at most 512 calls: refused ones", TermsTest::lastCallBehindRefusedOnes);
        CHECK.sentence("An object is used for at most 512 calls: writing ones", TermsTest::lastCallThatWrites);
        CHECK.sentence("VARIABLES 0 to 9", TermsTest::variables);
        CHECK.sentence("ASSIGNMENT, a number 0 to 1023", TermsTest::assignments);
        CHECK.sentence("bit v is whether VARIABLE v is true", TermsTest::bitsOfAssignments);
        CHECK.sentence("REGISTERS 0 to 15", TermsTest::registers);
        CHECK.sentence("REGISTERS 0 to 15 hold a FUNCTION each", TermsTest::registersHoldOneEach);
        CHECK.sentence("false for all at first", TermsTest::falseAtFirst);
        CHECK.sentence("HANGS if for some ASSIGNMENT turning that bit turns it", TermsTest::hangsByOneAssignment);
        CHECK.sentence("HANGS if for some ASSIGNMENT: for none", TermsTest::hangsOnNoneTurned);
        CHECK.sentence("A SET of VARIABLES: a number 0 to 1023", TermsTest::sets);
        CHECK.sentence("A SET: bit v for VARIABLE v", TermsTest::bitsOfSets);
        CHECK.sentence("PARTS: for k 0: itself", TermsTest::partIsItself);
        CHECK.sentence("PARTS: if that HANGS on VARIABLE k", TermsTest::partHangsOnItsVariable);
        CHECK.sentence("PARTS: so one that HANGS on none has none", TermsTest::partsOfNone);
        CHECK.sentence("Two PARTS are one if they are the same FUNCTION", TermsTest::samePartsAreOne);
        CHECK.sentence("PARTS: for some k from 0 on, as many as can be", TermsTest::partsOfTheFullest);
        CHECK.sentence("what is put to a REGISTER is made of what REGISTERS held before", TermsTest::madeOfWhatWasHeld);
        CHECK.sentence("IllegalArgumentException: a kind that is none", TermsTest::kinds);
        CHECK.sentence("then nothing changes: several that are none", TermsTest::severalThatAreNone);
        CHECK.sentence("It is thrown before others", TermsTest::illegalBeforeNone);
        CHECK.sentence("behind which nothing has changed either", TermsTest::nothingChangesBehindNone);
        CHECK.end();
    }
}
