/** Promise 18: bestFold. */
public final class P18BestFoldTest {
    private static final int NONE = FoldedBench.NONE;

    public static void main(String[] args) {
        Due.about("Promise 18, bestFold");
        Due.test("Finds the gap at which a fold would make the greatest toast", P18BestFoldTest::greatestToast);
        Due.test("the first gap, the last gap, each gap", P18BestFoldTest::eachGap);
        Due.test("of those by which no foes would face", P18BestFoldTest::noFoes);
        Due.test("of several the lowest one", P18BestFoldTest::lowestOfSeveral);
        Due.test("a toast of 0, and one that is less than now, is a toast, too", P18BestFoldTest::sadToasts);
        Due.test("what if; nothing changes", P18BestFoldTest::nothingChanges);
        Due.test("NONE if there is none: foes would face at each gap", P18BestFoldTest::noGapWithoutFoes);
        Due.test("NONE if there is none: foes face already", P18BestFoldTest::foesFaceAlready);
        Due.test("NONE if there is none: one column", P18BestFoldTest::oneColumn);
        Due.test("NONE if the bench has 5 folds", P18BestFoldTest::fiveFolds);
        Due.end();
    }

    private static void greatestToast() {
        FoldedBench x = Bench.seated(2, 7, 0);
        x.relate(0, 1, 1);
        Due.is("2 and 7 meet at 5", x.bestFold(), 5);
        x.relate(0, 2, 1);
        x.relate(2, 1, 1);
        Due.is("0 and 7 meet at 4, 0 and 2 at 1 .. never both", x.bestFold(), 4);
        x.set(FoldedBench.FACE, 0);
        Due.is("faces do not matter", x.bestFold(), 1);
        x = Bench.all(Bench.full(8), 1);
        Due.is("as many as can be meet in the middle", x.bestFold(), 4);
    }

    private static void eachGap() {
        for (int gap = 1; gap < 16; gap++) {
            FoldedBench x = Bench.settle(Bench.ofSeats(16), gap - 1, gap);
            x.relate(0, 1, 1);
            Due.is("friends meet at " + gap, x.bestFold(), gap);
        }
        FoldedBench x = Bench.pressed(Bench.seated(6, 5), 2);
        x.relate(0, 1, 1);
        Due.is("how it lies", Bench.lies(x), "1.2/0.3/4/5/6/7");
        Due.is("a gap as it lies", x.bestFold(), 4);
    }

    private static void noFoes() {
        FoldedBench x = Bench.seated(0, 1, 2);
        x.relate(0, 1, -1);
        Due.is("not 1", x.bestFold(), 2);
        x.relate(0, 1, 0);
        x.relate(1, 2, -1);
        Due.is("not 2", x.bestFold(), 1);
        x = Bench.seated(0, 1, 2, 3, 4, 5);
        x.set(FoldedBench.NEAR, 0);
        x.relate(2, 3, 1);
        x.relate(1, 4, 1);
        x.relate(0, 5, -1);
        Due.is("the toast at 3", x.ifFolded(3, 2), 36);
        Due.is("the toast at 1", x.ifFolded(1, 2), 30);
        Due.is("but foes would face at 3", x.bestFold(), 1);
        x.relate(0, 5, 0);
        Due.is("no foes any more", x.bestFold(), 3);
    }

    private static void lowestOfSeveral() {
        Due.is("nobody is there", new FoldedBench().bestFold(), 1);
        Due.is("nobody cares", Bench.seated(2, 7, 0).bestFold(), 1);
        FoldedBench x = Bench.seated(1, 2, 5, 6);
        x.relate(0, 1, 1);
        x.relate(2, 3, 1);
        Due.is("toast at 2", x.ifFolded(2, 2), x.ifFolded(6, 2));
        Due.is("2 is as good as 6", x.bestFold(), 2);
        x.stand(1);
        Due.is("6 alone", x.bestFold(), 6);
    }

    private static void sadToasts() {
        FoldedBench x = Bench.seated(0, 1);
        x.relate(0, 1, -1);
        x.set(FoldedBench.NEAR, 5);
        Due.is("toast", x.count(6), 0);
        Due.is("a toast of 0", x.ifFolded(2, 2), 0);
        Due.is("bestFold()", x.bestFold(), 2);
    }

    private static void nothingChanges() {
        FoldedBench x = Bench.livedAndFolded();
        String before = Bench.seen(x) + Bench.pad(x);
        Due.is("bestFold()", x.bestFold(), 2);
        Due.is("all after it", Bench.seen(x) + Bench.pad(x), before);
        Due.is("unfold()", x.unfold(), 3);
        Due.is("unfold()", x.unfold(), FoldedBench.NOT_POSSIBLE);
    }

    private static void noGapWithoutFoes() {
        FoldedBench x = Bench.full(2);
        x.relate(0, 1, -1);
        Due.is("the only gap brings foes together", x.bestFold(), NONE);
        x.relate(0, 1, 0);
        Due.is("the only gap", x.bestFold(), 1);
        for (int seats = 3; seats <= 12; seats++) {
            x = Bench.full(seats);
            for (int i = 1; i < seats; i++) {
                x.relate(i - 1, i, -1);
            }
            Due.is("foes beside each other on " + seats, x.bestFold(), NONE);
            x.relate(seats - 2, seats - 1, 1);
            Due.is("but the last two of " + seats, x.bestFold(), seats - 1);
        }
    }

    private static void foesFaceAlready() {
        FoldedBench x = Bench.seated(0, 1);
        x.relate(0, 1, -1);
        x.press(1);
        Due.is("foes face", x.bestFold(), NONE);
        x.relate(0, 1, 0);
        Due.is("no foes any more", x.bestFold(), 1);
    }

    private static void oneColumn() {
        Due.is("of two seats", Bench.pressed(Bench.ofSeats(2), 1).bestFold(), NONE);
        Due.is("of sixteen seats", Bench.pressed(Bench.ofSeats(16), 8, 4, 2, 1).bestFold(), NONE);
        Due.is("two columns", Bench.pressed(Bench.ofSeats(16), 8, 4, 2).bestFold(), 1);
    }

    private static void fiveFolds() {
        FoldedBench x = Bench.ofSeats(16);
        for (int i = 0; i < 5; i++) {
            Due.is("bestFold() with " + i + " folds", x.bestFold(), 1);
            x.fold(1);
        }
        Due.is("columns", x.count(2), 11);
        Due.is("five folds", x.bestFold(), NONE);
        x.unfold();
        Due.is("four again", x.bestFold(), 1);
    }
}
