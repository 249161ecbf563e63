/** For each promise: ordinary inputs, the edges that the document names, wrong inputs. */
public final class PromiseTest extends Samples {
    private static final Check CHECK = new Check();

    private static void newObject() {
        DiagramBench b = new DiagramBench();
        for (int r = 0; r < 16; r++) {
            CHECK.equal("new: ways", b.ways(r), 0);
            CHECK.equal("new: hangs", b.hangs(r), 0);
            CHECK.equal("new: parts", b.parts(r), 0);
            int register = r;
            CHECK.noSuchElement("new: first", b, x -> x.first(register));
            CHECK.table("new: is", x -> { }, r, s -> false);
        }
        CHECK.equal("new: together", b.together(0, 16), 0);
        DiagramBench other = new DiagramBench();
        b.variable(0, 0);
        CHECK.equal("new: objects are apart", other.ways(0), 0);
    }

    private static void variable() {
        for (int v = 0; v < 10; v++) {
            int w = v;
            CHECK.table("variable " + v, x -> x.variable(15 - w, w), 15 - v, s -> bit(s, w));
        }
        CHECK.table("variable over an older one", x -> { makeMixed(x); x.variable(0, 6); }, 0, s -> bit(s, 6));
        CHECK.table("variable: others stay", x -> { makeMixed(x); x.variable(1, 6); }, 0, PromiseTest::mixed);
        for (int bad : NO_REGISTER) {
            CHECK.illegal("variable to " + bad, PromiseTest::makeMixed, x -> x.variable(bad, 1));
        }
        for (int bad : NO_VARIABLE) {
            CHECK.illegal("variable v " + bad, PromiseTest::makeMixed, x -> x.variable(0, bad));
        }
    }

    private static void only() {
        for (int one : new int[] {0, 1, 63, 64, 512, 682, 959, 1023}) {
            CHECK.table("only " + one, x -> { makeMixed(x); x.only(0, one); }, 0, s -> s == one);
        }
        for (int bad : NO_REGISTER) {
            CHECK.illegal("only to " + bad, PromiseTest::makeMixed, x -> x.only(bad, 1));
        }
        for (int bad : NO_NUMBER) {
            CHECK.illegal("only assignment " + bad, PromiseTest::makeMixed, x -> x.only(0, bad));
        }
    }

    private static boolean joined(int kind, boolean a, boolean b) {
        boolean[][] due = {
            {false, false, false, true},
            {false, true, true, true},
            {false, true, true, false},
            {true, true, false, true},
            {true, true, false, false}
        };
        return due[kind][(a ? 2 : 0) + (b ? 1 : 0)];
    }

    private static void join() {
        for (int k = 0; k < 5; k++) {
            int kind = k;
            CHECK.table("join " + k, x -> { makeMixed(x); x.join(15, kind, 0, 8); }, 15,
                    s -> joined(kind, mixed(s), bit(s, 8)));
            CHECK.table("join to a " + k, x -> { makeMixed(x); x.join(0, kind, 0, 2); }, 0,
                    s -> joined(kind, mixed(s), bit(s, 2)));
            CHECK.table("join to b " + k, x -> { makeMixed(x); x.join(0, kind, 9, 0); }, 0,
                    s -> joined(kind, bit(s, 9), mixed(s)));
            CHECK.table("join all one " + k, x -> { makeMixed(x); x.join(0, kind, 0, 0); }, 0,
                    s -> joined(kind, mixed(s), mixed(s)));
            CHECK.table("join: a stays " + k, x -> { makeMixed(x); x.join(15, kind, 0, 8); }, 0, PromiseTest::mixed);
            for (int bad : NO_REGISTER) {
                CHECK.illegal("join to " + bad, PromiseTest::makeMixed, x -> x.join(bad, kind, 1, 2));
                CHECK.illegal("join a " + bad, PromiseTest::makeMixed, x -> x.join(0, kind, bad, 2));
                CHECK.illegal("join b " + bad, PromiseTest::makeMixed, x -> x.join(0, kind, 1, bad));
            }
        }
        for (int bad : NO_KIND) {
            CHECK.illegal("join kind " + bad, PromiseTest::makeMixed, x -> x.join(0, bad, 1, 2));
        }
    }

    private static void choose() {
        CHECK.table("choose", x -> { makeMixed(x); x.choose(15, 0, 8, 1); }, 15, s -> bit(s, mixed(s) ? 8 : 1));
        CHECK.table("choose to a", x -> { makeMixed(x); x.choose(0, 0, 8, 1); }, 0, s -> bit(s, mixed(s) ? 8 : 1));
        CHECK.table("choose to b", x -> { makeMixed(x); x.choose(0, 6, 0, 3); }, 0, s -> bit(s, 6) ? mixed(s) : bit(s, 3));
        CHECK.table("choose to c", x -> { makeMixed(x); x.choose(0, 6, 3, 0); }, 0, s -> bit(s, 6) ? bit(s, 3) : mixed(s));
        for (int bad : NO_REGISTER) {
            CHECK.illegal("choose to " + bad, PromiseTest::makeMixed, x -> x.choose(bad, 1, 2, 3));
            CHECK.illegal("choose a " + bad, PromiseTest::makeMixed, x -> x.choose(0, bad, 2, 3));
            CHECK.illegal("choose b " + bad, PromiseTest::makeMixed, x -> x.choose(0, 1, bad, 3));
            CHECK.illegal("choose c " + bad, PromiseTest::makeMixed, x -> x.choose(0, 1, 2, bad));
        }
    }

    private static void cut() {
        for (int w = 0; w < 10; w++) {
            int v = w;
            for (boolean value : new boolean[] {false, true}) {
                CHECK.table("cut " + v, x -> { makeMixed(x); x.cut(15, 0, v, value); }, 15, s -> mixed(with(s, v, value)));
                CHECK.table("cut to a " + v, x -> { makeMixed(x); x.cut(0, 0, v, value); }, 0, s -> mixed(with(s, v, value)));
                CHECK.table("cut: a stays " + v, x -> { makeMixed(x); x.cut(15, 0, v, value); }, 0, PromiseTest::mixed);
            }
        }
        for (int bad : NO_REGISTER) {
            CHECK.illegal("cut to " + bad, PromiseTest::makeMixed, x -> x.cut(bad, 1, 1, true));
            CHECK.illegal("cut a " + bad, PromiseTest::makeMixed, x -> x.cut(0, bad, 1, true));
        }
        for (int bad : NO_VARIABLE) {
            CHECK.illegal("cut v " + bad, PromiseTest::makeMixed, x -> x.cut(0, 1, bad, false));
        }
    }

    private static void put() {
        for (int w = 0; w < 10; w++) {
            int v = w;
            CHECK.table("put " + v, x -> { makeMixed(x); x.put(15, 0, v, 10); x.join(15, 4, 15, 0); }, 15,
                    s -> !mixed(with(s, v, inner(s))));
            CHECK.table("put to a " + v, x -> { makeMixed(x); x.put(0, 0, v, 10); }, 0, s -> mixed(with(s, v, inner(s))));
            CHECK.table("put to b " + v, x -> { makeMixed(x); x.put(10, 0, v, 10); }, 10, s -> mixed(with(s, v, inner(s))));
            CHECK.table("put itself " + v, x -> { makeMixed(x); x.put(0, 0, v, 0); }, 0, s -> mixed(with(s, v, mixed(s))));
            CHECK.table("put: a stays " + v, x -> { makeMixed(x); x.put(15, 0, v, 10); }, 0, PromiseTest::mixed);
        }
        CHECK.table("put of the variable turned", x -> { x.variable(1, 7); x.join(2, 4, 1, 1); x.put(1, 1, 7, 2); }, 1,
                s -> !bit(s, 7));
        for (int bad : NO_REGISTER) {
            CHECK.illegal("put to " + bad, PromiseTest::makeMixed, x -> x.put(bad, 1, 1, 2));
            CHECK.illegal("put a " + bad, PromiseTest::makeMixed, x -> x.put(0, bad, 1, 2));
            CHECK.illegal("put b " + bad, PromiseTest::makeMixed, x -> x.put(0, 1, 1, bad));
        }
        for (int bad : NO_VARIABLE) {
            CHECK.illegal("put v " + bad, PromiseTest::makeMixed, x -> x.put(0, 1, bad, 2));
        }
    }

    private static boolean boundMixed(int s, int set, boolean every) {
        for (int t = 0; t < 1024; t++) {
            if ((t & ~set) == (s & ~set) && mixed(t) != every) {
                return !every;
            }
        }
        return every;
    }

    private static void bound() {
        for (int set : new int[] {0, 1, 2, 4, 8, 16, 32, 64, 128, 256, 512, 3, 65, 768, 80, 682, 341, 1022, 1023}) {
            for (boolean every : new boolean[] {false, true}) {
                CHECK.table("bound " + set, x -> { makeMixed(x); x.bound(15, 0, set, every); }, 15,
                        s -> boundMixed(s, set, every));
                CHECK.table("bound to a " + set, x -> { makeMixed(x); x.bound(0, 0, set, every); }, 0,
                        s -> boundMixed(s, set, every));
                CHECK.table("bound: a stays " + set, x -> { makeMixed(x); x.bound(15, 0, set, every); }, 0,
                        PromiseTest::mixed);
            }
        }
        for (int bad : NO_REGISTER) {
            CHECK.illegal("bound to " + bad, PromiseTest::makeMixed, x -> x.bound(bad, 1, 1, true));
            CHECK.illegal("bound a " + bad, PromiseTest::makeMixed, x -> x.bound(0, bad, 1, false));
        }
        for (int bad : NO_NUMBER) {
            CHECK.illegal("bound set " + bad, PromiseTest::makeMixed, x -> x.bound(0, 1, bad, true));
        }
    }

    private static void swap() {
        for (int i = 0; i < 100; i++) {
            int v = i / 10;
            int w = i % 10;
            CHECK.table("swap " + i, x -> { makeMixed(x); x.swap(15, 0, v, w); }, 15, s -> mixed(changed(s, v, w)));
            CHECK.table("swap to a " + i, x -> { makeMixed(x); x.swap(0, 0, v, w); }, 0, s -> mixed(changed(s, v, w)));
            CHECK.table("swap: a stays " + i, x -> { makeMixed(x); x.swap(15, 0, v, w); }, 0, PromiseTest::mixed);
        }
        for (int bad : NO_REGISTER) {
            CHECK.illegal("swap to " + bad, PromiseTest::makeMixed, x -> x.swap(bad, 1, 1, 2));
            CHECK.illegal("swap a " + bad, PromiseTest::makeMixed, x -> x.swap(0, bad, 1, 2));
        }
        for (int bad : NO_VARIABLE) {
            CHECK.illegal("swap v " + bad, PromiseTest::makeMixed, x -> x.swap(0, 1, bad, 2));
            CHECK.illegal("swap w " + bad, PromiseTest::makeMixed, x -> x.swap(0, 1, 2, bad));
            CHECK.illegal("swap both " + bad, PromiseTest::makeMixed, x -> x.swap(0, 1, bad, bad));
        }
    }

    private static void is() {
        CHECK.table("is", PromiseTest::makeMixed, 0, PromiseTest::mixed);
        for (int bad : NO_REGISTER) {
            CHECK.illegal("is a " + bad, PromiseTest::makeMixed, x -> x.is(bad, 1));
        }
        for (int bad : NO_NUMBER) {
            CHECK.illegal("is assignment " + bad, PromiseTest::makeMixed, x -> x.is(0, bad));
        }
    }

    private static void ways() {
        DiagramBench b = new DiagramBench();
        makeMixed(b);
        int due = 0;
        for (int s = 0; s < 1024; s++) {
            due += mixed(s) ? 1 : 0;
        }
        CHECK.equal("ways of mixed", b.ways(0), due);
        CHECK.equal("ways of a variable", b.ways(9), 512);
        CHECK.equal("ways of none", b.ways(15), 0);
        b.join(14, 4, 15, 15);
        CHECK.equal("ways of all", b.ways(14), 1024);
        b.only(13, 1023);
        CHECK.equal("ways of one", b.ways(13), 1);
        for (int bad : NO_REGISTER) {
            CHECK.illegal("ways " + bad, PromiseTest::makeMixed, x -> x.ways(bad));
        }
    }

    private static void first() {
        DiagramBench b = new DiagramBench();
        for (int v = 0; v < 10; v++) {
            b.variable(0, v);
            CHECK.equal("first of a variable", b.first(0), 1 << v);
            b.join(0, 4, 0, 0);
            CHECK.equal("first of a variable turned", b.first(0), 0);
        }
        b.only(0, 1);
        b.only(1, 512);
        b.join(2, 1, 0, 1);
        CHECK.equal("first: variable 9 before variable 0", b.first(2), 512);
        b.only(0, 1022);
        b.join(2, 1, 2, 0);
        CHECK.equal("first: 512 before 1022", b.first(2), 512);
        b.only(1, 1);
        b.join(2, 1, 0, 1);
        CHECK.equal("first: 1022 before 1", b.first(2), 1022);
        b.only(2, 1023);
        CHECK.equal("first of the last", b.first(2), 1023);
        b.join(3, 4, 4, 4);
        CHECK.equal("first of all", b.first(3), 0);
        CHECK.equal("first changes nothing", b.ways(3), 1024);
        CHECK.noSuchElement("first of none", b, x -> x.first(15));
        CHECK.equal("first of none changes nothing", b.ways(15), 0);
        for (int bad : NO_REGISTER) {
            CHECK.illegal("first " + bad, PromiseTest::makeMixed, x -> x.first(bad));
        }
    }

    private static void hangs() {
        DiagramBench b = new DiagramBench();
        makeMixed(b);
        CHECK.equal("hangs on all", b.hangs(0), 1023);
        CHECK.equal("hangs on two", b.hangs(11), 1 << 4 | 1 << 6);
        b.cut(1, 0, 8, true);
        CHECK.equal("cut hangs not on its variable", b.hangs(1) & 1 << 8, 0);
        b.join(2, 2, 2, 2);
        CHECK.equal("hangs on none", b.hangs(2), 0);
        b.join(2, 4, 2, 2);
        CHECK.equal("true hangs on none", b.hangs(2), 0);
        for (int s : new int[] {0, 1, 512, 1023}) {
            b.only(3, s);
            CHECK.equal("one assignment hangs on all", b.hangs(3), 1023);
        }
        for (int v = 0; v < 10; v++) {
            b.variable(3, v);
            CHECK.equal("a variable hangs on itself", b.hangs(3), 1 << v);
        }
        for (int bad : NO_REGISTER) {
            CHECK.illegal("hangs " + bad, PromiseTest::makeMixed, x -> x.hangs(bad));
        }
    }

    private static void same() {
        DiagramBench b = new DiagramBench();
        makeMixed(b);
        CHECK.isTrue("same as itself", b.same(0, 0));
        CHECK.isFalse("not the same", b.same(0, 1));
        b.join(14, 4, 0, 0);
        CHECK.isFalse("not its turn", b.same(14, 0));
        b.join(14, 4, 14, 14);
        CHECK.isTrue("twice turned", b.same(14, 0));
        for (int s : new int[] {0, 63, 64, 1023}) {
            b.only(13, s);
            b.join(13, 2, 13, 0);
            CHECK.isFalse("one assignment apart", b.same(13, 0));
            CHECK.isFalse("one assignment apart, the other way", b.same(0, 13));
        }
        for (int bad : NO_REGISTER) {
            CHECK.illegal("same a " + bad, PromiseTest::makeMixed, x -> x.same(bad, 1));
            CHECK.illegal("same b " + bad, PromiseTest::makeMixed, x -> x.same(1, bad));
            CHECK.illegal("same both " + bad, PromiseTest::makeMixed, x -> x.same(bad, bad));
        }
    }

    private static void parts() {
        DiagramBench b = new DiagramBench();
        makeParity(b, 3, 4);
        CHECK.equal("parts of parity", b.parts(3), 19);
        CHECK.equal("parts of a variable", b.parts(4), 1);
        CHECK.equal("parts of false", b.parts(0), 0);
        b.join(0, 4, 0, 0);
        CHECK.equal("parts of true", b.parts(0), 0);
        b.only(1, 682);
        CHECK.equal("parts of one assignment", b.parts(1), 10);
        b.variable(5, 0);
        b.variable(6, 9);
        b.join(7, 0, 5, 6);
        CHECK.equal("parts with variables left out", b.parts(7), 2);
        b.join(7, 2, 5, 6);
        CHECK.equal("parts of two variables that differ", b.parts(7), 3);
        CHECK.equal("parts asked twice", b.parts(7), 3);
        for (int bad : NO_REGISTER) {
            CHECK.illegal("parts " + bad, PromiseTest::makeMixed, x -> x.parts(bad));
        }
    }

    private static void together() {
        DiagramBench b = new DiagramBench();
        makeParity(b, 3, 4);
        CHECK.equal("together: variable 9 is a part of parity", b.together(3, 5), 19);
        CHECK.equal("together: just one register", b.together(3, 4), 19);
        CHECK.equal("together: b is left out", b.together(2, 3), 0);
        CHECK.equal("together: all", b.together(0, 16), 19);
        b.join(5, 4, 3, 3);
        CHECK.equal("together: parity and its turn share all but the top", b.together(3, 6), 20);
        b.join(15, 1, 3, 3);
        CHECK.equal("together: the same function twice", b.together(0, 16), 20);
        b.only(0, 0);
        CHECK.equal("together: the first register counts", b.together(0, 16), 29);
        for (int i = 0; i < 10; i++) {
            b.variable(i, i);
        }
        CHECK.equal("together: ten variables", b.together(0, 10), 10);
        int[][] ranges = {{0, 0}, {1, 0}, {-1, 1}, {0, 17}, {16, 16}, {16, 17}, {15, 15}, {5, 3}, {MIN, 5},
            {0, MAX}, {MAX, MIN}, {MIN, MAX}, {-5, -1}, {15, 17}, {3, -1}};
        for (int[] r : ranges) {
            CHECK.illegal("together " + r[0] + " " + r[1], PromiseTest::makeMixed, x -> x.together(r[0], r[1]));
        }
    }

    public static void main(String[] args) {
        newObject();
        variable();
        only();
        join();
        choose();
        cut();
        put();
        bound();
        swap();
        is();
        ways();
        first();
        hangs();
        same();
        parts();
        together();
        CHECK.end();
    }
}
