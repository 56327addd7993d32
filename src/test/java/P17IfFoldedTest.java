/** Promise 17: ifFolded. */
public final class P17IfFoldedTest {
    private static final int BAD_VALUE = FoldedBench.BAD_VALUE;
    private static final int TOO_MANY = FoldedBench.TOO_MANY;

    public static void main(String[] args) {
        Due.about("Promise 17, ifFolded");
        Due.test("Tells what a fold would do", P17IfFoldedTest::whatAFoldWouldDo);
        Due.test("Tells what a fold would do: as a press does it, at each gap", P17IfFoldedTest::asAPressDoesIt);
        Due.test("what if; nothing changes", P17IfFoldedTest::nothingChanges);
        Due.test("0 pairs of foes, 1 pairs of friends who would face: none, with those who do already, all",
            P17IfFoldedTest::pairs);
        Due.test("2 the toast: nobody, all sad, all glad", P17IfFoldedTest::toasts);
        Due.test("3 columns, 4 the highest stack then: the least and the greatest", P17IfFoldedTest::sizes);
        Due.test("a fold that would be refused as foes would face is no error", P17IfFoldedTest::refusedFolds);
        Due.test("BAD_VALUE if gap is out of range", P17IfFoldedTest::gapOutOfRange);
        Due.test("BAD_VALUE if what is out of range", P17IfFoldedTest::whatOutOfRange);
        Due.test("TOO_MANY if it has 5 folds", P17IfFoldedTest::fiveFolds);
        Due.test("which comes first: BAD_VALUE, TOO_MANY", P17IfFoldedTest::firstError);
        Due.end();
    }

    private static void is(FoldedBench x, int gap, int... due) {
        for (int what = 0; what < 5; what++) {
            Due.is("ifFolded(" + gap + ", " + what + ")", x.ifFolded(gap, what), due[what]);
        }
    }

    private static void whatAFoldWouldDo() {
        FoldedBench x = Bench.seated(3, 4, 0);
        x.relate(0, 1, -1);
        x.relate(0, 2, 1);
        is(x, 4, 1, 0, 7, 4, 2);
        is(x, 3, 0, 0, 13, 5, 2);
        is(x, 2, 0, 1, 19, 6, 2);
        is(x, 1, 0, 0, 13, 7, 2);
        is(x, 7, 0, 0, 13, 7, 2);
        x = Bench.seated(3, 4, 5, 0);
        x.relate(0, 1, -1);
        x.relate(2, 3, 1);
        x.press(4);
        is(x, 2, 1, 0, 12, 2, 4);
        x.press(2);
        Due.is("how it lies", Bench.lies(x), "2.5.6.1/3.4.7.0");
        is(x, 1, 1, 0, 12, 1, 8);
    }

    private static FoldedBench mixed(int seats) {
        FoldedBench x = Bench.full(seats);
        for (int i = 0; i < seats; i++) {
            for (int j = 0; j < i; j++) {
                x.relate(i, j, (i * j + i) % 3 - 1);
            }
        }
        return x;
    }

    private static void asAPressDoesIt() {
        int[] counts = {4, 5, 6, 2, 7};
        for (int seats = 2; seats <= 12; seats++) {
            FoldedBench x = mixed(seats);
            FoldedBench twin = mixed(seats);
            while (x.count(2) > 1 && x.count(3) < 5) {
                for (int gap = 1; gap < x.count(2); gap++) {
                    twin.press(gap);
                    for (int what = 0; what < 5; what++) {
                        Due.is("ifFolded(" + gap + ", " + what + ")", x.ifFolded(gap, what), twin.count(counts[what]));
                    }
                    twin.unfold();
                }
                x.press((x.count(2) + 1) / 2);
                twin.press((twin.count(2) + 1) / 2);
            }
        }
    }

    private static void nothingChanges() {
        for (int what = 0; what < 5; what++) {
            FoldedBench x = Bench.livedAndFolded();
            String before = Bench.seen(x) + Bench.pad(x);
            for (int gap = 1; gap <= 4; gap++) {
                Due.holds("ifFolded(" + gap + ", " + what + ")", x.ifFolded(gap, what) >= 0);
            }
            Due.is("all after it", Bench.seen(x) + Bench.pad(x), before);
            Due.is("undo()", x.undo(), 5);
            Due.is("how it lies", Bench.lies(x), "0/1/2/3/4/5/6/7");
        }
    }

    private static void pairs() {
        FoldedBench x = Bench.all(Bench.full(12), -1);
        FoldedBench y = Bench.all(Bench.full(12), 1);
        int[] gaps = {6, 3, 1, 1};
        int[] due = {6, 9, 10, 11};
        for (int i = 0; i < 4; i++) {
            Due.is("foes", x.ifFolded(gaps[i], 0), due[i]);
            Due.is("no friends", x.ifFolded(gaps[i], 1), 0);
            Due.is("friends", y.ifFolded(gaps[i], 1), due[i]);
            Due.is("no foes", y.ifFolded(gaps[i], 0), 0);
            x.press(gaps[i]);
            y.press(gaps[i]);
        }
        x = Bench.all(Bench.seated(0, 1, 7), -1);
        x.press(1);
        Due.is("one pair faces already, no other one would", x.ifFolded(3, 0), 1);
        Due.is("one pair faces already, another one would", x.ifFolded(1, 0), 1);
    }

    private static void toasts() {
        Due.is("nobody is there", new FoldedBench().ifFolded(4, 2), 0);
        Due.is("all stand", Bench.seated(-1, -1).ifFolded(4, 2), 0);
        FoldedBench x = Bench.all(Bench.full(12), -1);
        x.set(FoldedBench.FACE, 9);
        x.set(FoldedBench.NEAR, 0);
        Due.is("all would be sad", x.ifFolded(6, 2), 0);
        Due.is("they are not yet", x.count(6), 60);
        Bench.all(x, 1);
        Due.is("all would be glad", x.ifFolded(6, 2), 108);
        Due.is("two would be glad", x.ifFolded(1, 2), 68);
        Due.is("they are not yet", x.count(6), 60);
    }

    private static void sizes() {
        Due.is("the fewest columns", Bench.ofSeats(2).ifFolded(1, 3), 1);
        Due.is("the most columns", Bench.ofSeats(16).ifFolded(1, 3), 15);
        Due.is("the most columns", Bench.ofSeats(16).ifFolded(15, 3), 15);
        Due.is("the lowest stack", Bench.ofSeats(16).ifFolded(8, 4), 2);
        FoldedBench x = Bench.pressed(Bench.ofSeats(16), 8, 4, 2);
        Due.is("one column", x.ifFolded(1, 3), 1);
        Due.is("the highest stack", x.ifFolded(1, 4), 16);
        x = Bench.pressed(Bench.ofSeats(7), 2);
        Due.is("the highest stack is one that is there already", x.ifFolded(4, 4), 2);
    }

    private static void refusedFolds() {
        FoldedBench x = Bench.lived();
        Due.is("fold(4)", x.fold(4), FoldedBench.NOT_POSSIBLE);
        Due.is("ifFolded(4, 0)", x.ifFolded(4, 0), 1);
        Due.is("ifFolded(4, 3)", x.ifFolded(4, 3), 4);
        x.press(4);
        Due.is("foes face already", x.ifFolded(1, 0), 1);
        Due.is("foes face already", x.ifFolded(1, 3), 3);
    }

    private static void gapOutOfRange() {
        for (int what = 0; what < 5; what++) {
            FoldedBench x = Bench.ofSeats(16);
            for (int gap : Bench.outside(1, 15)) {
                Due.is("ifFolded(" + gap + ", " + what + ")", x.ifFolded(gap, what), BAD_VALUE);
            }
            Due.holds("the least", x.ifFolded(1, what) >= 0);
            Due.holds("the greatest", x.ifFolded(15, what) >= 0);
        }
        Bench.refuses("ifFolded(0, 0)", BAD_VALUE, Bench::lived, x -> x.ifFolded(0, 0));
        Bench.refuses("ifFolded(8, 0)", BAD_VALUE, Bench::lived, x -> x.ifFolded(8, 0));
        Bench.refuses("the columns as it lies", BAD_VALUE, Bench::livedAndFolded, x -> x.ifFolded(5, 0));
        Due.is("one column", Bench.pressed(Bench.ofSeats(2), 1).ifFolded(1, 3), BAD_VALUE);
    }

    private static void whatOutOfRange() {
        FoldedBench x = Bench.lived();
        for (int what : Bench.outside(0, 4)) {
            Due.is("ifFolded(1, " + what + ")", x.ifFolded(1, what), BAD_VALUE);
        }
        Bench.refuses("ifFolded(1, 5)", BAD_VALUE, Bench::lived, y -> y.ifFolded(1, 5));
        Bench.refuses("ifFolded(1, -1)", BAD_VALUE, Bench::lived, y -> y.ifFolded(1, -1));
    }

    private static void fiveFolds() {
        FoldedBench x = Bench.foldedTimes(Bench.ofSeats(16), 4);
        Due.is("a 5th", x.ifFolded(1, 3), 11);
        x.fold(1);
        for (int what = 0; what < 5; what++) {
            Due.is("a 6th", x.ifFolded(1, what), TOO_MANY);
            Due.is("a 6th", x.ifFolded(10, what), TOO_MANY);
        }
        x.unfold();
        Due.is("a 5th again", x.ifFolded(1, 3), 11);
        Bench.refuses("a 6th", TOO_MANY, () -> Bench.foldedTimes(Bench.ofSeats(16), 5), y -> y.ifFolded(1, 0));
    }

    private static void firstError() {
        FoldedBench x = Bench.foldedTimes(Bench.ofSeats(16), 5);
        Due.is("a 6th, too large", x.ifFolded(11, 0), BAD_VALUE);
        Due.is("a 6th, too small", x.ifFolded(0, 0), BAD_VALUE);
        Due.is("a 6th, no such what", x.ifFolded(1, 5), BAD_VALUE);
        Due.is("a 6th, no such what", x.ifFolded(1, -1), BAD_VALUE);
    }
}
