/** Promise 7: relate. */
public final class P07RelateTest {
    private static final int NO_SUCH = FoldedBench.NO_SUCH;
    private static final int BAD_VALUE = FoldedBench.BAD_VALUE;

    public static void main(String[] args) {
        Due.about("Promise 7, relate");
        Due.test("Tells how two cousins are to each other: 1 friends, -1 foes, 0 neither",
            P07RelateTest::eachToTheOther);
        Due.test("how two cousins are: no others", P07RelateTest::noOthers);
        Due.test("This is a change: also if it is the same", P07RelateTest::isAChange);
        Due.test("Returns how they were, and 1: 0, 1, 2", P07RelateTest::howTheyWere);
        Due.test("no error while one stands, or on a folded bench", P07RelateTest::noOtherErrors);
        Due.test("NO_SUCH if there is no such cousin", P07RelateTest::noSuchCousin);
        Due.test("BAD_VALUE if both are the same", P07RelateTest::same);
        Due.test("BAD_VALUE if how is none of these", P07RelateTest::noneOfThese);
        Due.test("which comes first: NO_SUCH, BAD_VALUE", P07RelateTest::firstError);
        Due.end();
    }

    private static void eachToTheOther() {
        FoldedBench x = Bench.seated(-1, -1, -1);
        x.relate(0, 2, 1);
        are(x, 4, 1, 0, 0);
        x.relate(2, 0, -1);
        are(x, 0, 0, 4, 1);
        x.relate(0, 2, 0);
        are(x, 0, 0, 0, 0);
        x.relate(2, 0, -1);
        are(x, 0, 0, 4, 1);
        x.relate(2, 0, 1);
        are(x, 4, 1, 0, 0);
        x.relate(2, 0, 0);
        are(x, 0, 0, 0, 0);
    }

    private static void are(FoldedBench x, int friends, int otherFriends, int foes, int otherFoes) {
        Due.is("friends", x.of(0, 2), friends);
        Due.is("friends of the other", x.of(2, 2), otherFriends);
        Due.is("foes", x.of(0, 3), foes);
        Due.is("foes of the other", x.of(2, 3), otherFoes);
        Due.is("friends of a third", x.of(1, 2), 0);
        Due.is("foes of a third", x.of(1, 3), 0);
    }

    private static void noOthers() {
        FoldedBench x = Bench.all(Bench.full(12), 1);
        x.relate(0, 11, -1);
        Due.is("friends of the first", x.of(0, 2), 0x7FE);
        Due.is("friends of the last", x.of(11, 2), 0x7FE);
        Due.is("foes of the first", x.of(0, 3), 0x800);
        Due.is("foes of the last", x.of(11, 3), 1);
        for (int i = 1; i < 11; i++) {
            Due.is("friends of " + i, x.of(i, 2), 0xFFF & ~(1 << i));
            Due.is("foes of " + i, x.of(i, 3), 0);
        }
    }

    private static void isAChange() {
        FoldedBench x = Bench.seated(-1, -1);
        x.relate(0, 1, 0);
        Due.is("the same", x.count(12), 3);
        x.relate(0, 1, 1);
        Due.is("another", x.count(12), 4);
        x.relate(0, 1, -1);
        Due.is("undo()", x.undo(), 4);
        Due.is("as before", x.of(1, 2), 1);
        Due.is("as before", x.of(1, 3), 0);
    }

    private static void howTheyWere() {
        FoldedBench x = Bench.seated(-1, -1);
        int was = 0;
        for (int how : new int[] {0, 1, 1, 0, -1, -1, 0, 1, -1, 1}) {
            Due.is("relate(0, 1, " + how + ")", x.relate(0, 1, how), was + 1);
            was = how;
        }
        Due.is("told of the other", x.relate(1, 0, 0), 2);
    }

    private static void noOtherErrors() {
        FoldedBench x = Bench.seated(3, 4, -1);
        Due.is("one stands", x.relate(0, 2, 1), 1);
        x.fold(4);
        Due.is("foes who face already", x.relate(0, 1, -1), 1);
        Due.is("pairs of foes", x.count(4), 1);
        Due.is("pairs of friends", x.count(5), 0);
        Due.is("friends who face already", x.relate(1, 0, 1), 0);
        Due.is("pairs of foes", x.count(4), 0);
        Due.is("pairs of friends", x.count(5), 1);
    }

    private static void noSuchCousin() {
        for (int cousin : Bench.outside(0, 2)) {
            Bench.refuses("relate(" + cousin + ", 0, 1)", NO_SUCH, Bench::lived, x -> x.relate(cousin, 0, 1));
            Bench.refuses("relate(0, " + cousin + ", 1)", NO_SUCH, Bench::lived, x -> x.relate(0, cousin, 1));
        }
        Due.is("nobody is there", new FoldedBench().relate(0, 1, 1), NO_SUCH);
        Due.is("of twelve", Bench.full(12).relate(11, 12, 1), NO_SUCH);
        Due.is("the last of twelve", Bench.full(12).relate(11, 10, 1), 1);
        Due.is("not by a mask's wrapping", Bench.full(12).relate(0, 33, 1), NO_SUCH);
    }

    private static void same() {
        Bench.refuses("the first", BAD_VALUE, Bench::lived, x -> x.relate(0, 0, 1));
        Bench.refuses("the last", BAD_VALUE, Bench::lived, x -> x.relate(2, 2, -1));
        Bench.refuses("neither", BAD_VALUE, Bench::lived, x -> x.relate(1, 1, 0));
    }

    private static void noneOfThese() {
        for (int how : Bench.outside(-1, 1)) {
            Bench.refuses("relate(0, 1, " + how + ")", BAD_VALUE, Bench::lived, x -> x.relate(0, 1, how));
        }
    }

    private static void firstError() {
        FoldedBench x = Bench.lived();
        Due.is("no such cousin, the same", x.relate(3, 3, 1), NO_SUCH);
        Due.is("no such cousin, the same", x.relate(-1, -1, 1), NO_SUCH);
        Due.is("no such cousin, none of these", x.relate(3, 0, 2), NO_SUCH);
        Due.is("no such other one, none of these", x.relate(0, 3, -2), NO_SUCH);
        Due.is("the same, none of these", x.relate(0, 0, 2), BAD_VALUE);
    }
}
