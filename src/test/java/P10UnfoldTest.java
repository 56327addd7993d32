/** Promise 10: unfold. */
public final class P10UnfoldTest {
    private static final int NOT_POSSIBLE = FoldedBench.NOT_POSSIBLE;

    public static void main(String[] args) {
        Due.about("Promise 10, unfold");
        Due.test("Takes the latest fold back", P10UnfoldTest::latestFold);
        Due.test("the latest fold: none that was refused, or only asked about", P10UnfoldTest::noTrials);
        Due.test("This is a change", P10UnfoldTest::isAChange);
        Due.test("Returns its gap: the least, and the greatest", P10UnfoldTest::gaps);
        Due.test("all five", P10UnfoldTest::fiveFolds);
        Due.test("no error if foes face", P10UnfoldTest::foesFace);
        Due.test("NOT_POSSIBLE if there is none", P10UnfoldTest::none);
        Due.end();
    }

    private static void latestFold() {
        FoldedBench x = new FoldedBench();
        x.fold(3);
        x.press(2);
        x.fold(1);
        Due.is("how it lies", Bench.lies(x), "1.4.5.0.6.3.2/7");
        Due.is("unfold()", x.unfold(), 1);
        Due.is("how it lies", Bench.lies(x), "1.4.5.0/2.3.6/7");
        Due.is("unfold()", x.unfold(), 2);
        Due.is("how it lies", Bench.lies(x), "2.3/1.4/0.5/6/7");
        Due.is("fold(4)", x.fold(4), 4);
        Due.is("unfold()", x.unfold(), 4);
        Due.is("unfold()", x.unfold(), 3);
        Due.is("how it lies", Bench.lies(x), "0/1/2/3/4/5/6/7");
    }

    private static void noTrials() {
        FoldedBench x = Bench.seated(0, 1);
        x.fold(5);
        x.fold(2);
        x.relate(0, 1, -1);
        x.fold(9);
        x.fold(2);
        x.ifFolded(2, 2);
        x.bestFold();
        x.bestSwap(0);
        x.fewestFolds();
        Due.is("unfold()", x.unfold(), 2);
        x.ifFolded(4, 2);
        x.fewestFolds();
        Due.is("unfold()", x.unfold(), 5);
        Due.is("how it lies", Bench.lies(x), "0/1/2/3/4/5/6/7");
    }

    private static void isAChange() {
        FoldedBench x = new FoldedBench();
        x.fold(3);
        x.unfold();
        Due.is("changes", x.count(12), 2);
        Due.is("undo()", x.undo(), 1);
        Due.is("how it lies", Bench.lies(x), "2.3/1.4/0.5/6/7");
        Due.is("unfold() again", x.unfold(), 3);
    }

    private static void gaps() {
        for (int gap = 1; gap <= 15; gap++) {
            Due.is("unfold()", Bench.pressed(Bench.ofSeats(16), gap).unfold(), gap);
        }
    }

    private static void fiveFolds() {
        FoldedBench x = Bench.pressed(Bench.ofSeats(16), 15, 1, 13, 2, 10);
        Due.is("folds", x.count(3), 5);
        for (int gap : new int[] {10, 2, 13, 1, 15}) {
            Due.is("unfold()", x.unfold(), gap);
        }
        Due.is("columns", x.count(2), 16);
        Due.is("unfold()", x.unfold(), NOT_POSSIBLE);
    }

    private static void foesFace() {
        FoldedBench x = Bench.pressed(Bench.all(Bench.full(4), -1), 2, 1);
        Due.is("pairs", x.count(4), 3);
        Due.is("unfold()", x.unfold(), 1);
        Due.is("pairs", x.count(4), 2);
        Due.is("unfold()", x.unfold(), 2);
        Due.is("pairs", x.count(4), 0);
    }

    private static void none() {
        Due.is("a new bench", new FoldedBench().unfold(), NOT_POSSIBLE);
        Bench.refuses("unfold()", NOT_POSSIBLE, Bench::lived, FoldedBench::unfold);
        FoldedBench x = Bench.pressed(new FoldedBench(), 3);
        x.unfold();
        Due.is("again", x.unfold(), NOT_POSSIBLE);
        Due.is("changes", x.count(12), 2);
    }
}
