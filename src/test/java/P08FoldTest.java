/** Promise 8: fold. How a bench lies then is tested by TermsFoldsTest. */
public final class P08FoldTest {
    private static final int BAD_VALUE = FoldedBench.BAD_VALUE;
    private static final int TOO_MANY = FoldedBench.TOO_MANY;
    private static final int NOT_POSSIBLE = FoldedBench.NOT_POSSIBLE;

    public static void main(String[] args) {
        Due.about("Promise 8, fold");
        Due.test("Folds the bench: in the middle, near its ends", P08FoldTest::folds);
        Due.test("This is a change", P08FoldTest::isAChange);
        Due.test("Returns its columns then: 1 at least, 15 at most", P08FoldTest::columnsThen);
        Due.test("gap: 1 to its columns - 1; BAD_VALUE if gap is out of range", P08FoldTest::gaps);
        Due.test("its columns: as it is folded already, down to one column", P08FoldTest::gapsOfFoldedBenches);
        Due.test("TOO_MANY if it has 5 folds", P08FoldTest::fiveFolds);
        Due.test("NOT_POSSIBLE if foes would face then: at each place", P08FoldTest::foesAtEachPlace);
        Due.test("foes: friends and strangers may face, and who stands faces nobody", P08FoldTest::others);
        Due.test("would face then: only who lies next above", P08FoldTest::onlyNextAbove);
        Due.test("(also if they do already)", P08FoldTest::foesFaceAlready);
        Due.test("which comes first: BAD_VALUE, TOO_MANY, NOT_POSSIBLE", P08FoldTest::firstError);
        Due.end();
    }

    private static void folds() {
        FoldedBench x = new FoldedBench();
        Due.is("fold(4)", x.fold(4), 4);
        Due.is("how it lies", Bench.lies(x), "3.4/2.5/1.6/0.7");
        Due.is("fold(2)", x.fold(2), 2);
        Due.is("how it lies", Bench.lies(x), "2.5.6.1/3.4.7.0");
        Due.is("fold(1)", x.fold(1), 1);
        Due.is("how it lies", Bench.lies(x), "2.5.6.1.0.7.4.3");
        x = new FoldedBench();
        Due.is("fold(1)", x.fold(1), 7);
        Due.is("how it lies", Bench.lies(x), "0.1/2/3/4/5/6/7");
        Due.is("fold(6)", x.fold(6), 6);
        Due.is("how it lies", Bench.lies(x), "6.7/5/4/3/2/0.1");
    }

    private static void isAChange() {
        FoldedBench x = new FoldedBench();
        x.fold(3);
        x.fold(2);
        Due.is("changes", x.count(12), 2);
        Due.is("folds", x.count(3), 2);
        Due.is("undo()", x.undo(), 1);
        Due.is("how it lies", Bench.lies(x), "2.3/1.4/0.5/6/7");
        Due.is("undo()", x.undo(), 0);
        Due.is("how it lies", Bench.lies(x), "0/1/2/3/4/5/6/7");
    }

    private static void columnsThen() {
        Due.is("of two seats", Bench.ofSeats(2).fold(1), 1);
        Due.is("of three seats", Bench.ofSeats(3).fold(1), 2);
        Due.is("of three seats", Bench.ofSeats(3).fold(2), 2);
        Due.is("of sixteen, the first gap", Bench.ofSeats(16).fold(1), 15);
        Due.is("of sixteen, the middle", Bench.ofSeats(16).fold(8), 8);
        Due.is("of sixteen, before the middle", Bench.ofSeats(16).fold(7), 9);
        Due.is("of sixteen, the last gap", Bench.ofSeats(16).fold(15), 15);
    }

    private static void gaps() {
        for (int gap : Bench.outside(1, 7)) {
            Bench.refuses("fold(" + gap + ")", BAD_VALUE, Bench::lived, x -> x.fold(gap));
        }
        for (int seats : new int[] {2, 3, 16}) {
            Due.is("the least of " + seats, Bench.ofSeats(seats).fold(1), Math.max(1, seats - 1));
            Due.is("the greatest of " + seats, Bench.ofSeats(seats).fold(seats - 1), seats - 1);
            Due.is("too small for " + seats, Bench.ofSeats(seats).fold(0), BAD_VALUE);
            Due.is("too large for " + seats, Bench.ofSeats(seats).fold(seats), BAD_VALUE);
        }
    }

    private static void gapsOfFoldedBenches() {
        Bench.refuses("fold(5) of 5 columns", BAD_VALUE, Bench::livedAndFolded, x -> x.fold(5));
        Due.is("fold(4) of 5 columns", Bench.pressed(new FoldedBench(), 3).fold(4), 4);
        FoldedBench x = Bench.pressed(new FoldedBench(), 4, 2);
        Due.is("fold(2) of 2 columns", x.fold(2), BAD_VALUE);
        Due.is("fold(1) of 2 columns", x.fold(1), 1);
        Due.is("fold(1) of one column", x.fold(1), BAD_VALUE);
        Due.is("fold(0) of one column", x.fold(0), BAD_VALUE);
        Due.is("folds", x.count(3), 3);
    }

    private static void fiveFolds() {
        FoldedBench x = Bench.foldedTimes(Bench.ofSeats(16), 4);
        Due.is("a 5th", x.fold(11), 11);
        Due.is("a 6th", x.fold(1), TOO_MANY);
        Due.is("folds", x.count(3), 5);
        x.unfold();
        Due.is("a 5th again", x.fold(1), 11);
        Bench.refuses("a 6th, the first gap", TOO_MANY, () -> Bench.foldedTimes(Bench.ofSeats(16), 5), y -> y.fold(1));
        Bench.refuses("a 6th, the last gap", TOO_MANY, () -> Bench.foldedTimes(Bench.ofSeats(8), 5), y -> y.fold(2));
    }

    /** Each pair of seats that a fold lays one over the other, on each bench, at each gap. */
    private static void foesAtEachPlace() {
        for (int seats = 2; seats <= 16; seats++) {
            for (int gap = 1; gap < seats; gap++) {
                for (int d = 0; d < gap && gap + d < seats; d++) {
                    FoldedBench x = Bench.settle(Bench.ofSeats(seats), gap - 1 - d, gap + d);
                    x.relate(0, 1, -1);
                    Due.is("fold(" + gap + ") of " + seats + ", at " + d, x.fold(gap), NOT_POSSIBLE);
                    Due.is("folds", x.count(3), 0);
                }
            }
        }
        Bench.refuses("fold(4)", NOT_POSSIBLE, Bench::lived, x -> x.fold(4));
    }

    private static void others() {
        FoldedBench x = Bench.seated(3, 4, 0, 7, -1);
        x.relate(0, 1, 1);
        x.relate(0, 4, -1);
        x.relate(1, 2, -1);
        Due.is("friends, strangers, and foes who do not face", x.fold(4), 4);
        x.unfold();
        x.relate(0, 1, -1);
        Due.is("foes", x.fold(4), NOT_POSSIBLE);
        x.stand(1);
        Due.is("one of them stands", x.fold(4), 4);
    }

    private static void onlyNextAbove() {
        FoldedBench x = Bench.settle(Bench.ofSeats(3), 0, 2);
        x.relate(0, 1, -1);
        Due.is("fold(1)", x.fold(1), 2);
        Due.is("0 and 2 with 1 between", x.fold(1), 1);
        x.unfold();
        x.unfold();
        x.fold(2);
        Due.is("0 on 2", x.fold(1), NOT_POSSIBLE);
    }

    private static void foesFaceAlready() {
        FoldedBench x = Bench.seated(0, 1);
        x.relate(0, 1, -1);
        Due.is("press(1)", x.press(1), 1);
        for (int gap = 1; gap <= 6; gap++) {
            Due.is("fold(" + gap + ")", x.fold(gap), NOT_POSSIBLE);
        }
        x.relate(0, 1, 0);
        Due.is("no foes any more", x.fold(6), 6);
        x.relate(0, 1, -1);
        Due.is("foes again", x.fold(5), NOT_POSSIBLE);
        Due.is("unfold()", x.unfold(), 6);
        Due.is("unfold()", x.unfold(), 1);
        Due.is("they do not face any more", x.fold(6), 6);
        Bench.refuses("fold(1)", NOT_POSSIBLE, () -> Bench.pressed(Bench.lived(), 4), y -> y.fold(1));
    }

    private static void firstError() {
        FoldedBench x = Bench.foldedTimes(Bench.settle(Bench.ofSeats(16), 0, 1), 5);
        Due.is("a 6th, out of range", x.fold(11), BAD_VALUE);
        Due.is("a 6th, out of range", x.fold(0), BAD_VALUE);
        x.relate(0, 1, -1);
        Due.is("foes face", x.count(4), 1);
        Due.is("a 6th, foes face, out of range", x.fold(11), BAD_VALUE);
        Due.is("a 6th, foes face", x.fold(1), TOO_MANY);
        x.unfold();
        Due.is("foes face, out of range", x.fold(12), BAD_VALUE);
        Due.is("foes face, out of range", x.fold(0), BAD_VALUE);
        Due.is("foes face", x.fold(1), NOT_POSSIBLE);
        x = Bench.pressed(Bench.settle(Bench.ofSeats(6), 0, 1), 1, 1, 1, 1, 1);
        x.relate(0, 1, -1);
        Due.is("5 folds, foes face, one column", x.fold(1), BAD_VALUE);
    }
}
