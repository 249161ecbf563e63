/** The words under 'Promise 1' to 'Promise 16' that name an edge, one test each. */
public final class EdgesTest extends Samples {
    private static final Check CHECK = new Check();
    private static final int[] ENDS = {0, 15};

    /** Registers of makePairs by what they hold. */
    private static final int MIXED = 0;
    private static final int NEVER = 5;
    private static final int ALWAYS = 6;
    private static final int PARITY = 7;

    private static DiagramBench pairs() {
        DiagramBench b = new DiagramBench();
        makePairs(b);
        return b;
    }

    private static void allFalse() {
        DiagramBench b = new DiagramBench();
        for (int r = 0; r < 16; r++) {
            int register = r;
            CHECK.equal("ways of " + r, b.ways(r), 0);
            CHECK.isFalse("first assignment, " + r, b.is(r, 0));
            CHECK.isFalse("last assignment, " + r, b.is(r, 1023));
            CHECK.isTrue("the same as the last, " + r, b.same(r, 15));
            CHECK.noSuchElement("first of " + r, b, x -> x.first(register));
        }
    }

    private static void newObjectBesideAnother() {
        DiagramBench b = pairs();
        DiagramBench other = new DiagramBench();
        CHECK.equal("a new object's parts", other.together(0, 16), 0);
        other.join(0, 4, 0, 0);
        CHECK.equal("a new object's first", other.ways(0), 1024);
        CHECK.pairsStand("a new object", b);
    }

    private static void variableFirstAndLast() {
        for (int to : ENDS) {
            CHECK.table("variable 0 to " + to, x -> x.variable(to, 0), to, s -> bit(s, 0));
            CHECK.table("variable 9 to " + to, x -> x.variable(to, 9), to, s -> bit(s, 9));
        }
    }

    private static void variableOverWhatWasThere() {
        for (int r = 0; r < 16; r++) {
            DiagramBench b = pairs();
            b.variable(r, 4);
            CHECK.equal("first, register " + r, b.first(r), 16);
            CHECK.equal("ways, register " + r, b.ways(r), 512);
            CHECK.equal("hangs, register " + r, b.hangs(r), 16);
        }
    }

    private static void onlyFirstAndLast() {
        for (int to : ENDS) {
            CHECK.table("only 0 to " + to, x -> x.only(to, 0), to, s -> s == 0);
            CHECK.table("only 1023 to " + to, x -> x.only(to, 1023), to, s -> s == 1023);
        }
    }

    private static void onlyJustOne() {
        for (int r = 0; r < 16; r++) {
            DiagramBench b = pairs();
            b.only(r, 0);
            b.only(r, 600);
            CHECK.equal("ways, register " + r, b.ways(r), 1);
            CHECK.equal("first, register " + r, b.first(r), 600);
            CHECK.isFalse("the one before, register " + r, b.is(r, 0));
        }
    }

    private static void eachAssignmentAlone() {
        for (int from = 0; from < 1024; from += 128) {
            DiagramBench b = new DiagramBench();
            for (int s = from; s < from + 128; s++) {
                b.only(0, s);
                CHECK.isTrue("is " + s, b.is(0, s));
                CHECK.equal("first " + s, b.first(0), s);
                CHECK.equal("ways " + s, b.ways(0), 1);
            }
        }
    }

    private static void joinKind(int kind, boolean[] due) {
        for (int a : new int[] {NEVER, ALWAYS}) {
            for (int b : new int[] {NEVER, ALWAYS}) {
                DiagramBench x = pairs();
                x.join(1, kind, a, b);
                boolean answer = due[(a == ALWAYS ? 2 : 0) + (b == ALWAYS ? 1 : 0)];
                CHECK.isTrue("of " + a + " and " + b, x.same(1, answer ? ALWAYS : NEVER));
            }
        }
        CHECK.table("of mixed and parity", x -> { makePairs(x); x.join(1, kind, MIXED, PARITY); }, 1,
                s -> due[(mixed(s) ? 2 : 0) + (parity(s) ? 1 : 0)]);
        CHECK.table("of parity and mixed", x -> { makePairs(x); x.join(1, kind, PARITY, MIXED); }, 1,
                s -> due[(parity(s) ? 2 : 0) + (mixed(s) ? 1 : 0)]);
        CHECK.table("of mixed and mixed", x -> { makePairs(x); x.join(1, kind, MIXED, MIXED); }, 1,
                s -> due[mixed(s) ? 3 : 0]);
    }

    private static void joinAnd() {
        joinKind(0, new boolean[] {false, false, false, true});
    }

    private static void joinOr() {
        joinKind(1, new boolean[] {false, true, true, true});
    }

    private static void joinJustOne() {
        joinKind(2, new boolean[] {false, true, true, false});
    }

    private static void joinIfThen() {
        joinKind(3, new boolean[] {true, true, false, true});
    }

    private static void joinNot() {
        joinKind(4, new boolean[] {true, true, false, false});
    }

    private static void joinNotNeedsRegister() {
        for (int bad : NO_REGISTER) {
            for (int r = 0; r < 16; r++) {
                int register = r;
                CHECK.refused("not " + r + ", b " + bad, x -> x.join(register, 4, register, bad));
            }
        }
        for (int b = 0; b < 16; b++) {
            DiagramBench x = pairs();
            x.join(NEVER, 4, MIXED, b);
            x.join(ALWAYS, 2, NEVER, MIXED);
            CHECK.equal("b " + b + " does not count", x.ways(ALWAYS), 1024);
        }
    }

    private static void chooseByConstant() {
        DiagramBench b = pairs();
        b.choose(1, ALWAYS, MIXED, PARITY);
        CHECK.isTrue("b where a is true for all", b.same(1, MIXED));
        b.choose(1, NEVER, MIXED, PARITY);
        CHECK.isTrue("c where a is false for all", b.same(1, PARITY));
    }

    private static void chooseOfConstants() {
        DiagramBench b = pairs();
        b.choose(1, MIXED, ALWAYS, NEVER);
        CHECK.isTrue("true else false", b.same(1, MIXED));
        b.choose(1, MIXED, NEVER, ALWAYS);
        b.join(2, 4, MIXED, MIXED);
        CHECK.isTrue("false else true", b.same(1, 2));
        b.choose(1, MIXED, PARITY, PARITY);
        CHECK.isTrue("b and c alike", b.same(1, PARITY));
        b.choose(1, MIXED, MIXED, MIXED);
        CHECK.isTrue("all three alike", b.same(1, MIXED));
    }

    private static void chooseByOneAssignment() {
        for (int one : new int[] {0, 1023, 64, 63}) {
            CHECK.table("but for " + one, x -> { makePairs(x); x.only(1, one); x.choose(1, 1, PARITY, MIXED); }, 1,
                    s -> s == one ? parity(s) : mixed(s));
        }
    }

    private static void cutTrueOrFalse() {
        for (int v = 0; v < 10; v++) {
            DiagramBench b = new DiagramBench();
            b.variable(0, v);
            b.cut(1, 0, v, true);
            CHECK.equal("variable " + v + " true", b.ways(1), 1024);
            b.cut(1, 0, v, false);
            CHECK.equal("variable " + v + " false", b.ways(1), 0);
            b.only(0, 1023);
            b.cut(1, 0, v, true);
            CHECK.equal("the last assignment, " + v + " true", b.ways(1), 2);
            b.cut(1, 0, v, false);
            CHECK.equal("the last assignment, " + v + " false", b.ways(1), 0);
        }
    }

    private static void cutWhateverItIs() {
        for (boolean value : BOTH) {
            DiagramBench b = pairs();
            for (int v = 0; v < 10; v++) {
                b.cut(1, MIXED, v, value);
                CHECK.equal("hangs on " + v, b.hangs(1) & 1 << v, 0);
                b.cut(2, 1, v, !value);
                CHECK.isTrue("cut once more, " + v, b.same(1, 2));
                b.cut(3, NEVER, v, value);
                CHECK.isTrue("of false, " + v, b.same(3, NEVER));
                b.cut(3, ALWAYS, v, value);
                CHECK.isTrue("of true, " + v, b.same(3, ALWAYS));
            }
        }
    }

    private static void cutAll() {
        for (int s : new int[] {0, 1, 512, 682, 1023}) {
            DiagramBench b = pairs();
            for (int v = 0; v < 10; v++) {
                b.cut(MIXED, MIXED, v, bit(s, v));
            }
            CHECK.equal("all variables given, " + s, b.ways(MIXED), mixed(s) ? 1024 : 0);
        }
    }

    private static void putConstant() {
        DiagramBench b = pairs();
        for (int v = 0; v < 10; v++) {
            b.put(1, MIXED, v, ALWAYS);
            b.cut(2, MIXED, v, true);
            CHECK.isTrue("true for " + v, b.same(1, 2));
            b.put(1, MIXED, v, NEVER);
            b.cut(2, MIXED, v, false);
            CHECK.isTrue("false for " + v, b.same(1, 2));
        }
    }

    private static void putWhereNothingChanges() {
        DiagramBench b = pairs();
        for (int v = 0; v < 10; v++) {
            b.variable(2, v);
            b.put(1, MIXED, v, 2);
            CHECK.isTrue("the variable itself for " + v, b.same(1, MIXED));
            b.cut(2, MIXED, v, true);
            b.put(1, 2, v, PARITY);
            CHECK.isTrue("for a variable that counts not, " + v, b.same(1, 2));
            b.variable(2, v);
            b.put(1, 2, v, PARITY);
            CHECK.isTrue("all of it, " + v, b.same(1, PARITY));
        }
    }

    private static void putAsItIs() {
        for (int w = 0; w < 10; w++) {
            int v = w;
            CHECK.table("not the variable for " + v,
                    x -> { makePairs(x); x.variable(1, v); x.join(1, 4, 1, 1); x.put(2, MIXED, v, 1); }, 2,
                    s -> mixed(s ^ 1 << v));
            CHECK.table("parity for " + v, x -> { makePairs(x); x.put(2, MIXED, v, PARITY); }, 2,
                    s -> mixed(with(s, v, parity(s))));
            CHECK.table("itself for " + v, x -> { makePairs(x); x.put(2, MIXED, v, MIXED); }, 2,
                    s -> mixed(with(s, v, mixed(s))));
        }
    }

    private static void boundNoVariables() {
        for (boolean every : BOTH) {
            for (int a = 0; a < 8; a++) {
                DiagramBench b = pairs();
                int to = a == 1 ? 2 : 1;
                b.bound(to, a, 0, every);
                CHECK.isTrue("register " + a, b.same(to, a));
                b.bound(a, a, 0, every);
                CHECK.isTrue("register " + a + " to itself", b.same(a, a + 8));
            }
        }
    }

    private static void boundAllVariables() {
        for (int a = 0; a < 8; a++) {
            DiagramBench b = pairs();
            int to = 9;
            b.bound(to, a, 1023, false);
            CHECK.equal("for some, register " + a, b.ways(to), PAIR_WAYS[a] > 0 ? 1024 : 0);
            b.bound(to, a, 1023, true);
            CHECK.equal("for all, register " + a, b.ways(to), PAIR_WAYS[a] == 1024 ? 1024 : 0);
        }
    }

    private static void boundSomeByOneAssignment() {
        for (int s : new int[] {0, 1, 63, 64, 512, 1023}) {
            DiagramBench b = new DiagramBench();
            for (int v = 0; v < 10; v++) {
                b.only(0, s);
                b.bound(1, 0, 1 << v, false);
                CHECK.equal("some of " + v, b.ways(1), 2);
                CHECK.isTrue("its turn in " + v, b.is(1, s ^ 1 << v));
                b.bound(1, 0, 1023 ^ 1 << v, false);
                CHECK.equal("some of all but " + v, b.ways(1), 512);
                CHECK.equal("hangs on " + v, b.hangs(1), 1 << v);
                b.bound(1, 0, 1 << v, true);
                CHECK.equal("all of " + v, b.ways(1), 0);
            }
        }
    }

    private static void boundEveryButOneAssignment() {
        for (int s : new int[] {0, 1, 63, 64, 512, 1023}) {
            DiagramBench b = new DiagramBench();
            b.only(0, s);
            b.join(0, 4, 0, 0);
            for (int v = 0; v < 10; v++) {
                b.bound(1, 0, 1 << v, true);
                CHECK.equal("all of " + v, b.ways(1), 1022);
                CHECK.isFalse("its turn in " + v, b.is(1, s ^ 1 << v));
                b.bound(1, 0, 1 << v, false);
                CHECK.equal("some of " + v, b.ways(1), 1024);
            }
            b.bound(1, 0, 1023, true);
            CHECK.equal("all of all", b.ways(1), 0);
        }
    }

    private static void boundVariablesThatCountNot() {
        for (boolean every : BOTH) {
            DiagramBench b = new DiagramBench();
            for (int v = 0; v < 10; v++) {
                b.variable(0, v);
                b.bound(1, 0, 1023 ^ 1 << v, every);
                CHECK.isTrue("all but " + v, b.same(0, 1));
                b.bound(1, 0, 1 << v, every);
                CHECK.equal("variable " + v, b.ways(1), every ? 0 : 1024);
            }
        }
    }

    private static void swapOneWithItself() {
        for (int a = 0; a < 8; a++) {
            DiagramBench b = pairs();
            int to = a == 1 ? 2 : 1;
            for (int v = 0; v < 10; v++) {
                b.swap(to, a, v, v);
                CHECK.isTrue("register " + a + ", variable " + v, b.same(to, a));
                b.swap(a, a, v, v);
                CHECK.isTrue("register " + a + " to itself, variable " + v, b.same(a, a + 8));
            }
        }
    }

    private static void swapPlaces() {
        for (int v = 0; v < 10; v++) {
            DiagramBench b = pairs();
            for (int w = 0; w < 10; w++) {
                b.variable(1, v);
                b.swap(2, 1, v, w);
                CHECK.equal("variable " + v + " to " + w, b.hangs(2), 1 << w);
                b.swap(2, 1, w, v);
                CHECK.equal("variable " + v + " to " + w + ", told the other way", b.hangs(2), 1 << w);
                CHECK.equal("first of variable " + w, b.first(2), 1 << w);
                b.swap(2, MIXED, v, w);
                b.swap(2, 2, v, w);
                CHECK.isTrue("twice " + v + " and " + w, b.same(2, MIXED));
                b.swap(2, PARITY, v, w);
                CHECK.isTrue("parity " + v + " and " + w, b.same(2, PARITY));
            }
        }
    }

    private static void swapOfThoseThatCountNot() {
        for (int v = 0; v < 10; v++) {
            DiagramBench b = new DiagramBench();
            b.variable(0, v);
            for (int i = 1; i < 9; i++) {
                b.swap(1, 0, (v + i) % 10, (v + i + 1) % 10);
                CHECK.isTrue("variable " + v + ", step " + i, b.same(0, 1));
            }
        }
    }

    private static void isOfEachPair() {
        for (int r = 0; r < 16; r++) {
            int register = r;
            CHECK.table("register " + r, Samples::makePairs, r, s -> pair(register, s));
        }
    }

    private static void waysOfNoneAndAll() {
        DiagramBench b = pairs();
        for (int r = 0; r < 16; r++) {
            CHECK.equal("register " + r, b.ways(r), PAIR_WAYS[r % 8]);
        }
        b.join(0, 4, 4, 4);
        CHECK.equal("all but the last assignment", b.ways(0), 1023);
        b.join(0, 4, 3, 3);
        CHECK.equal("all but the first assignment", b.ways(0), 1023);
        b.join(0, 1, 3, 4);
        CHECK.equal("the first and the last", b.ways(0), 2);
    }

    /** Of two assignments the one in which the least variable that tells them apart is false. */
    private static void firstOfTwo() {
        int[] some = {0, 1, 2, 3, 31, 32, 63, 64, 341, 511, 512, 513, 682, 960, 1022, 1023};
        for (int s : some) {
            DiagramBench b = new DiagramBench();
            b.only(0, s);
            for (int t : some) {
                b.only(1, t);
                b.join(2, 1, 0, 1);
                int differ = s ^ t;
                int due = (s & differ & -differ) == 0 ? s : t;
                CHECK.equal("of " + s + " and " + t, b.first(2), due);
            }
        }
    }

    private static void firstByLesserVariable() {
        DiagramBench b = new DiagramBench();
        for (int v = 0; v < 9; v++) {
            b.only(0, 1 << v);
            b.only(1, 1023 ^ (1 << v + 1) - 1);
            b.join(2, 1, 0, 1);
            CHECK.equal("all above " + v + " before " + v, b.first(2), 1023 ^ (1 << v + 1) - 1);
        }
    }

    private static void firstOfAllAndOfLast() {
        DiagramBench b = pairs();
        CHECK.equal("all", b.first(ALWAYS), 0);
        CHECK.equal("the first alone", b.first(3), 0);
        CHECK.equal("the last alone", b.first(4), 1023);
        CHECK.equal("parity", b.first(PARITY), 512);
        CHECK.pairsStand("first", b);
        b.join(0, 4, 3, 3);
        CHECK.equal("all but the first", b.first(0), 512);
    }

    private static void firstOfNone() {
        DiagramBench b = pairs();
        CHECK.noSuchElement("false", b, x -> x.first(NEVER));
        CHECK.noSuchElement("false, its copy", b, x -> x.first(NEVER + 8));
        b.join(1, 2, MIXED, MIXED);
        CHECK.noSuchElement("a function and itself", b, x -> x.first(1));
        b.join(1, 0, 3, 4);
        CHECK.noSuchElement("the first and the last at once", b, x -> x.first(1));
        b.only(1, 1023);
        CHECK.equal("no more none", b.first(1), 1023);
        b.bound(1, 1, 512, true);
        CHECK.noSuchElement("none again", b, x -> x.first(1));
    }

    private static void hangsOnNoneAndAll() {
        DiagramBench b = pairs();
        int[] due = {1023, 1, 512, 1023, 1023, 0, 0, 1023};
        for (int r = 0; r < 16; r++) {
            CHECK.equal("register " + r, b.hangs(r), due[r % 8]);
        }
    }

    private static void hangsOnEachPair() {
        for (int v = 0; v < 10; v++) {
            DiagramBench b = new DiagramBench();
            b.variable(0, v);
            for (int w = 0; w < 10; w++) {
                b.variable(1, w);
                b.join(2, 0, 0, 1);
                CHECK.equal(v + " and " + w, b.hangs(2), 1 << v | 1 << w);
                b.join(2, 2, 0, 1);
                CHECK.equal("just one of " + v + " and " + w, b.hangs(2), v == w ? 0 : 1 << v | 1 << w);
            }
        }
    }

    private static void sameAsItself() {
        DiagramBench b = pairs();
        for (int r = 0; r < 16; r++) {
            CHECK.isTrue("register " + r, b.same(r, r));
        }
        DiagramBench fresh = new DiagramBench();
        CHECK.isTrue("the ends of a new object", fresh.same(0, 15) && fresh.same(15, 0));
    }

    private static void sameJustForPairs() {
        DiagramBench b = pairs();
        for (int i = 0; i < 256; i++) {
            int r = i / 16;
            int q = i % 16;
            CHECK.isTrue("registers " + r + " and " + q, b.same(r, q) == (r % 8 == q % 8));
        }
    }

    private static void sameButForOneAssignment() {
        for (int from = 0; from < 1024; from += 128) {
            DiagramBench b = pairs();
            for (int s = from; s < from + 128; s++) {
                b.only(1, s);
                b.join(1, 2, 1, MIXED);
                CHECK.isFalse("but for " + s, b.same(1, MIXED));
            }
        }
    }

    private static void sameMadeTwoWays() {
        DiagramBench b = pairs();
        b.join(1, 1, MIXED, PARITY);
        b.join(2, 4, MIXED, 0);
        b.join(2, 3, 2, PARITY);
        CHECK.isTrue("a or b, if not a then b", b.same(1, 2));
        b.cut(1, MIXED, 6, true);
        b.cut(2, MIXED, 6, false);
        b.variable(3, 6);
        b.choose(3, 3, 1, 2);
        CHECK.isTrue("both halves put together", b.same(3, MIXED));
    }

    private static void partsOfEachPair() {
        DiagramBench b = pairs();
        int[] due = {-1, 1, 1, 10, 10, 0, 0, 19};
        for (int r = 0; r < 16; r++) {
            if (r % 8 != MIXED) {
                CHECK.equal("register " + r, b.parts(r), due[r % 8]);
            }
        }
        CHECK.equal("copies alike", b.parts(0), b.parts(8));
        b.join(1, 4, MIXED, 0);
        CHECK.equal("as many turned", b.parts(1), b.parts(MIXED));
        CHECK.equal("asked again", b.parts(PARITY), 19);
    }

    private static void partsFarApart() {
        DiagramBench b = new DiagramBench();
        b.variable(0, 0);
        b.variable(1, 9);
        b.join(2, 1, 0, 1);
        CHECK.equal("0 or 9", b.parts(2), 2);
        b.variable(3, 5);
        b.choose(4, 0, 3, 1);
        CHECK.equal("5 if 0, else 9", b.parts(4), 3);
        b.choose(4, 1, 3, 0);
        CHECK.equal("5 if 9, else 0", b.parts(4), 5);
    }

    private static void rangesThatAreOne() {
        DiagramBench b = new DiagramBench();
        for (int r = 0; r < 16; r++) {
            b.only(r, 0);
        }
        for (int r = 0; r < 10; r++) {
            b.variable(r, r);
        }
        for (int a = 0; a < 16; a++) {
            for (int before = a + 1; before <= 16; before++) {
                // Variable 9 turned is a part of the one assignment, variable 9 is not.
                int due = Math.max(0, Math.min(before, 10) - a) + (before > 10 ? 10 : 0);
                CHECK.equal("from " + a + " to before " + before, b.together(a, before), due);
            }
        }
    }

    private static void rangesThatAreNone() {
        int[] ends = {MIN, -17, -16, -1, 0, 1, 7, 15, 16, 17, 32, 256, MAX};
        for (int a : ends) {
            for (int b : ends) {
                if (a < 0 || a >= b || b > 16) {
                    CHECK.refused("from " + a + " to before " + b, x -> x.together(a, b));
                } else {
                    CHECK.nothingThrown("from " + a + " to before " + b, pairs(), x -> x.together(a, b));
                }
            }
        }
        for (int r = 0; r <= 16; r++) {
            int end = r;
            CHECK.refused("from " + r + " to before itself", x -> x.together(end, end));
            CHECK.refused("from " + r + " down", x -> x.together(end, end - 1));
        }
    }

    private static void lastRegisterIsLeftOut() {
        DiagramBench b = new DiagramBench();
        makeParity(b, 15, 0);
        b.variable(0, 0);
        CHECK.equal("without 15", b.together(0, 15), 1);
        CHECK.equal("with 15", b.together(0, 16), 20);
        CHECK.equal("15 alone", b.together(15, 16), 19);
        CHECK.equal("0 alone", b.together(0, 1), 1);
        CHECK.equal("without 0", b.together(1, 16), 19);
    }

    private static void differentPartsTogether() {
        DiagramBench b = pairs();
        CHECK.equal("pairs count once", b.together(0, 8), b.together(0, 16));
        CHECK.equal("pairs count once, shifted", b.together(3, 11), b.together(0, 8));
        CHECK.equal("one alone", b.together(PARITY, PARITY + 1), b.parts(PARITY));
        CHECK.equal("false and true have none", b.together(NEVER, ALWAYS + 1), 0);
        CHECK.equal("the first and the last share none", b.together(3, 5), 20);
        b.variable(8, 9);
        CHECK.equal("a part of another", b.together(PARITY, PARITY + 2), 19);
        b.variable(8, 8);
        CHECK.equal("no part of another", b.together(PARITY, PARITY + 2), 20);
        b.join(8, 4, PARITY, 0);
        CHECK.equal("all but the top shared", b.together(PARITY, PARITY + 2), 20);
    }

    private static void firstPromises() {
        CHECK.sentence("1: All REGISTERS false for all", EdgesTest::allFalse);
        CHECK.sentence("1: a new object beside another", EdgesTest::newObjectBesideAnother);
        CHECK.sentence("2: REGISTER to is VARIABLE v: first and last", EdgesTest::variableFirstAndLast);
        CHECK.sentence("2: REGISTER to is VARIABLE v: over any", EdgesTest::variableOverWhatWasThere);
        CHECK.sentence("3: one ASSIGNMENT: first and last", EdgesTest::onlyFirstAndLast);
        CHECK.sentence("3: true just for one", EdgesTest::onlyJustOne);
        CHECK.sentence("3: one ASSIGNMENT: each", EdgesTest::eachAssignmentAlone);
        CHECK.sentence("4: kind 0: a and b", EdgesTest::joinAnd);
        CHECK.sentence("4: 1: a or b", EdgesTest::joinOr);
        CHECK.sentence("4: 2: just one of them", EdgesTest::joinJustOne);
        CHECK.sentence("4: 3: if a then b", EdgesTest::joinIfThen);
        CHECK.sentence("4: 4: not a", EdgesTest::joinNot);
        CHECK.sentence("4: b, too, must be a REGISTER", EdgesTest::joinNotNeedsRegister);
        CHECK.sentence("5: b where a is true, else c: a for all or none", EdgesTest::chooseByConstant);
        CHECK.sentence("5: b where a is true, else c: b, c for all or none", EdgesTest::chooseOfConstants);
        CHECK.sentence("5: b where a is true, else c: a for one", EdgesTest::chooseByOneAssignment);
        CHECK.sentence("6: VARIABLE v true or false", EdgesTest::cutTrueOrFalse);
        CHECK.sentence("6: whatever it is", EdgesTest::cutWhateverItIs);
        CHECK.sentence("6: VARIABLE v true or false: all of them", EdgesTest::cutAll);
        CHECK.sentence("7: what b is put for VARIABLE v: true or false", EdgesTest::putConstant);
        CHECK.sentence("7: what b is put for VARIABLE v: nothing changes", EdgesTest::putWhereNothingChanges);
        CHECK.sentence("7: b for the ASSIGNMENT as it is", EdgesTest::putAsItIs);
        CHECK.sentence("8: 0: a itself", EdgesTest::boundNoVariables);
        CHECK.sentence("8: VARIABLES of a SET: all", EdgesTest::boundAllVariables);
        CHECK.sentence("8: for some values", EdgesTest::boundSomeByOneAssignment);
        CHECK.sentence("8: every: for all", EdgesTest::boundEveryButOneAssignment);
        CHECK.sentence("8: VARIABLES of a SET: such as a hangs not on", EdgesTest::boundVariablesThatCountNot);
    }

    private static void lastPromises() {
        CHECK.sentence("9: perhaps the same: a itself", EdgesTest::swapOneWithItself);
        CHECK.sentence("9: changing places", EdgesTest::swapPlaces);
        CHECK.sentence("9: changing places: such as a hangs not on", EdgesTest::swapOfThoseThatCountNot);
        CHECK.sentence("10: Whether a is true for an ASSIGNMENT", EdgesTest::isOfEachPair);
        CHECK.sentence("11: For how many ASSIGNMENTS: none and all", EdgesTest::waysOfNoneAndAll);
        CHECK.sentence("12: at the first at which they differ, is false", EdgesTest::firstOfTwo);
        CHECK.sentence("12: the lesser VARIABLE", EdgesTest::firstByLesserVariable);
        CHECK.sentence("12: Of the ASSIGNMENTS: all and one", EdgesTest::firstOfAllAndOfLast);
        CHECK.sentence("12: NoSuchElementException: there is none", EdgesTest::firstOfNone);
        CHECK.sentence("13: The SET: none and all", EdgesTest::hangsOnNoneAndAll);
        CHECK.sentence("13: The SET: each two", EdgesTest::hangsOnEachPair);
        CHECK.sentence("14: two REGISTERS: one and the same", EdgesTest::sameAsItself);
        CHECK.sentence("14: the same FUNCTION", EdgesTest::sameJustForPairs);
        CHECK.sentence("14: the same FUNCTION: but for one ASSIGNMENT", EdgesTest::sameButForOneAssignment);
        CHECK.sentence("14: the same FUNCTION: made two ways", EdgesTest::sameMadeTwoWays);
        CHECK.sentence("15: How many PARTS a has", EdgesTest::partsOfEachPair);
        CHECK.sentence("15: How many PARTS a has: variables left out", EdgesTest::partsFarApart);
        CHECK.sentence("16: 0 <= a < b <= 16", EdgesTest::rangesThatAreOne);
        CHECK.sentence("16: not 0 <= a < b <= 16", EdgesTest::rangesThatAreNone);
        CHECK.sentence("16: from a to before b", EdgesTest::lastRegisterIsLeftOut);
        CHECK.sentence("16: How many different PARTS", EdgesTest::differentPartsTogether);
    }

    public static void main(String[] args) {
        firstPromises();
        lastPromises();
        CHECK.end();
    }
}
