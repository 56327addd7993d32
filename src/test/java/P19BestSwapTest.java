/** Promise 19: bestSwap. */
public final class P19BestSwapTest {
    public static void main(String[] args) {
        Due.about("Promise 19, bestSwap");
        Due.test("Finds the two seats with whose swap the fewest pairs of foes would face",
            P19BestSwapTest::fewestPairs);
        Due.test("as the bench lies (as if one could swap now)", P19BestSwapTest::asItLies);
        Due.test("with whose swap: also if each swap is worse than none", P19BestSwapTest::worseThanNone);
        Due.test("the fewest pairs: none, some, all", P19BestSwapTest::noneSomeAll);
        Due.test("of several those with the lowest lower one", P19BestSwapTest::lowestLowerOne);
        Due.test("then the lowest higher one", P19BestSwapTest::lowestHigherOne);
        Due.test("the first two seats, the last two, and two seats in all", P19BestSwapTest::firstAndLast);
        Due.test("pairs of foes: friends do not count", P19BestSwapTest::friends);
        Due.test("what if; nothing changes", P19BestSwapTest::nothingChanges);
        Due.test("0 the lower seat, 1 the higher one, 2 how many pairs would face", P19BestSwapTest::eachWhat);
        Due.test("BAD_VALUE if what is out of range", P19BestSwapTest::whatOutOfRange);
        Due.end();
    }

    private static void is(FoldedBench x, int lower, int higher, int pairs) {
        Due.is("bestSwap(0)", x.bestSwap(0), lower);
        Due.is("bestSwap(1)", x.bestSwap(1), higher);
        Due.is("bestSwap(2)", x.bestSwap(2), pairs);
    }

    private static void fewestPairs() {
        FoldedBench x = Bench.seated(3, 4, 7);
        x.relate(0, 1, -1);
        x.press(4);
        Due.is("pairs", x.count(4), 1);
        is(x, 0, 3, 0);
        x.relate(0, 2, -1);
        is(x, 0, 4, 0);
        x.relate(1, 2, -1);
        is(x, 1, 3, 0);
    }

    /** Each swap is tried for real, ahead of the folds. */
    private static void asItLies() {
        int[][] folds = {{}, {3}, {4}, {1, 1}, {3, 2}, {5, 1, 2}, {2, 1, 1, 1}, {1, 1, 1, 1, 1}};
        for (int[] gaps : folds) {
            int[] best = {0, 0, 99};
            for (int lower = 0; lower < 6; lower++) {
                for (int higher = lower + 1; higher < 6; higher++) {
                    FoldedBench swapped = feud();
                    swapped.swap(lower, higher);
                    int pairs = Bench.pressed(swapped, gaps).count(4);
                    if (pairs < best[2]) {
                        best = new int[] {lower, higher, pairs};
                    }
                }
            }
            is(Bench.pressed(feud(), gaps), best[0], best[1], best[2]);
        }
    }

    private static FoldedBench feud() {
        FoldedBench x = Bench.full(6);
        for (int i = 0; i < 6; i++) {
            for (int j = 0; j < i; j++) {
                x.relate(i, j, (i + 2 * j) % 3 == 0 ? 0 : -1);
            }
        }
        return x;
    }

    private static void worseThanNone() {
        FoldedBench x = Bench.withFoes(4, 0, 2, 1, 3, 0, 1, 2, 3);
        x.press(2);
        Due.is("how it lies", Bench.lies(x), "1.2/0.3");
        Due.is("pairs", x.count(4), 0);
        is(x, 0, 3, 0);
        x = Bench.pressed(Bench.withFoes(4, 1, 3, 0, 1, 0, 2), 2, 1);
        Due.is("how it lies", Bench.lies(x), "1.2.3.0");
        Due.is("pairs", x.count(4), 0);
        is(x, 0, 2, 1);
    }

    private static void noneSomeAll() {
        is(new FoldedBench(), 0, 1, 0);
        FoldedBench x = Bench.pressed(Bench.all(Bench.full(4), -1), 2, 1);
        is(x, 0, 1, 3);
        x = Bench.full(4);
        for (int i = 1; i < 4; i++) {
            x.relate(0, i, -1);
        }
        x.relate(1, 2, -1);
        x.press(2);
        Due.is("how it lies", Bench.lies(x), "1.2/0.3");
        Due.is("pairs", x.count(4), 2);
        is(x, 0, 1, 1);
        x = Bench.pressed(Bench.all(Bench.full(12), -1), 6, 3, 1, 1);
        is(x, 0, 1, 11);
    }

    private static void lowestLowerOne() {
        FoldedBench x = Bench.pressed(Bench.seated(3, 4, 0), 4);
        x.relate(0, 1, -1);
        Due.is("how it lies", Bench.lies(x), "3.4/2.5/1.6/0.7");
        is(x, 0, 3, 0);
        x.relate(2, 0, -1);
        x.relate(2, 1, -1);
        Due.is("pairs", x.count(4), 1);
        is(x, 1, 3, 0);
    }

    private static void lowestHigherOne() {
        FoldedBench x = Bench.pressed(Bench.seated(0, 7, 1), 4);
        x.relate(0, 1, -1);
        Due.is("how it lies", Bench.lies(x), "3.4/2.5/1.6/0.7");
        is(x, 0, 1, 0);
        x.relate(2, 1, -1);
        Due.is("pairs", x.count(4), 1);
        is(x, 0, 2, 0);
    }

    /** In the last case who sits on 0 is a foe of all but the last, and the last a foe of who sits on 9. */
    private static void firstAndLast() {
        is(new FoldedBench(), 0, 1, 0);
        FoldedBench x = Bench.pressed(Bench.all(Bench.full(2), -1), 1);
        is(x, 0, 1, 1);
        x = Bench.full(3);
        x.relate(0, 1, -1);
        x.relate(1, 2, -1);
        x.press(1);
        Due.is("how it lies", Bench.lies(x), "0.1/2");
        is(x, 1, 2, 0);
        x = Bench.full(11);
        for (int i = 1; i <= 9; i++) {
            x.relate(0, i, -1);
        }
        x.relate(9, 10, -1);
        x.press(5);
        Due.is("how it lies", Bench.lies(x), "4.5/3.6/2.7/1.8/0.9/10");
        is(x, 9, 10, 0);
    }

    private static void friends() {
        FoldedBench x = Bench.pressed(Bench.all(Bench.full(2), 1), 1);
        is(x, 0, 1, 0);
        x = Bench.pressed(Bench.all(Bench.full(6), 1), 3);
        is(x, 0, 1, 0);
    }

    private static void nothingChanges() {
        for (int what = 0; what <= 2; what++) {
            FoldedBench x = Bench.livedAndFolded();
            x.relate(0, 1, 0);
            x.relate(0, 2, -1);
            x.press(1);
            String before = Bench.seen(x) + Bench.pad(x);
            Due.holds("bestSwap(" + what + ")", x.bestSwap(what) >= 0);
            Due.is("all after it", Bench.seen(x) + Bench.pad(x), before);
        }
    }

    private static void eachWhat() {
        FoldedBench x = Bench.pressed(Bench.seated(7, 0), 4);
        x.relate(0, 1, -1);
        Due.is("pairs", x.count(4), 1);
        Due.is("the lower seat", x.bestSwap(0), 0);
        Due.is("the higher seat", x.bestSwap(1), 1);
        Due.is("pairs then", x.bestSwap(2), 0);
    }

    private static void whatOutOfRange() {
        FoldedBench x = new FoldedBench();
        for (int what : Bench.outside(0, 2)) {
            Due.is("bestSwap(" + what + ")", x.bestSwap(what), FoldedBench.BAD_VALUE);
        }
        Bench.refuses("bestSwap(3)", FoldedBench.BAD_VALUE, Bench::lived, y -> y.bestSwap(3));
        Bench.refuses("bestSwap(-1)", FoldedBench.BAD_VALUE, Bench::lived, y -> y.bestSwap(-1));
    }
}
