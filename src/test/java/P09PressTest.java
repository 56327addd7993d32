/** Promise 9: press. */
public final class P09PressTest {
    private static final int BAD_VALUE = FoldedBench.BAD_VALUE;
    private static final int TOO_MANY = FoldedBench.TOO_MANY;

    public static void main(String[] args) {
        Due.about("Promise 9, press");
        Due.test("Folds the bench, whoever faces", P09PressTest::whoeverFaces);
        Due.test("This is a change", P09PressTest::isAChange);
        Due.test("Returns how many pairs of foes face then: none", P09PressTest::noPairs);
        Due.test("how many pairs face then: with those who face already", P09PressTest::someFaceAlready);
        Due.test("how many pairs face then: all", P09PressTest::allPairs);
        Due.test("BAD_VALUE if gap is out of range", P09PressTest::gaps);
        Due.test("TOO_MANY if it has 5 folds", P09PressTest::fiveFolds);
        Due.test("which comes first: BAD_VALUE, TOO_MANY", P09PressTest::firstError);
        Due.end();
    }

    private static void whoeverFaces() {
        FoldedBench x = Bench.all(Bench.full(8), -1);
        x.press(4);
        Due.is("how it lies", Bench.lies(x), "3.4/2.5/1.6/0.7");
        x.press(1);
        Due.is("how it lies", Bench.lies(x), "3.4.5.2/6.1/7.0");
        x.press(2);
        Due.is("how it lies", Bench.lies(x), "6.1.0.7/3.4.5.2");
        x.press(1);
        Due.is("how it lies", Bench.lies(x), "6.1.0.7.2.5.4.3");
        Due.is("folds", x.count(3), 4);
    }

    private static void isAChange() {
        FoldedBench x = new FoldedBench();
        x.press(3);
        Due.is("changes", x.count(12), 1);
        x.press(2);
        Due.is("undo()", x.undo(), 1);
        Due.is("how it lies", Bench.lies(x), "2.3/1.4/0.5/6/7");
        Due.is("undo()", x.undo(), 0);
        Due.is("folds", x.count(3), 0);
    }

    private static void noPairs() {
        Due.is("nobody is there", new FoldedBench().press(4), 0);
        Due.is("strangers", Bench.full(8).press(4), 0);
        Due.is("friends", Bench.all(Bench.full(8), 1).press(4), 0);
        Due.is("foes who do not face", Bench.all(Bench.seated(0, 2, 4, 6), -1).press(3), 0);
    }

    private static void someFaceAlready() {
        FoldedBench x = Bench.seated(0, 7, 3, 4, 1);
        x.relate(0, 1, -1);
        x.relate(2, 3, -1);
        Due.is("two pairs", x.press(4), 2);
        x.relate(4, 0, -1);
        Due.is("no further pair", x.press(1), 2);
        Due.is("a further pair", x.press(2), 3);
        x.relate(0, 1, 1);
        Due.is("friends do not count", x.press(1), 2);
    }

    private static void allPairs() {
        FoldedBench x = Bench.all(Bench.full(12), -1);
        Due.is("twos", x.press(6), 6);
        Due.is("fours", x.press(3), 9);
        Due.is("an eight and a four", x.press(1), 10);
        Due.is("a twelve", x.press(1), 11);
    }

    private static void gaps() {
        for (int gap : Bench.outside(1, 7)) {
            Bench.refuses("press(" + gap + ")", BAD_VALUE, Bench::lived, x -> x.press(gap));
        }
        Bench.refuses("press(5) of 5 columns", BAD_VALUE, Bench::livedAndFolded, x -> x.press(5));
        Due.is("press(4) of 5 columns", Bench.livedAndFolded().press(4), 0);
        Due.is("the greatest of 16", Bench.ofSeats(16).press(15), 0);
        Due.is("too large for 16", Bench.ofSeats(16).press(16), BAD_VALUE);
        FoldedBench x = Bench.ofSeats(2);
        Due.is("press(1) of two", x.press(1), 0);
        Due.is("press(1) of one column", x.press(1), BAD_VALUE);
    }

    private static void fiveFolds() {
        FoldedBench x = Bench.foldedTimes(Bench.ofSeats(16), 4);
        Due.is("a 5th", x.press(11), 0);
        Due.is("a 6th", x.press(1), TOO_MANY);
        Due.is("folds", x.count(3), 5);
        Bench.refuses("a 6th, the first gap", TOO_MANY, () -> Bench.foldedTimes(Bench.ofSeats(16), 5), y -> y.press(1));
        Bench.refuses("a 6th, the last gap", TOO_MANY, () -> Bench.foldedTimes(Bench.ofSeats(8), 5), y -> y.press(2));
    }

    private static void firstError() {
        FoldedBench x = Bench.foldedTimes(Bench.ofSeats(16), 5);
        Due.is("a 6th, too large", x.press(11), BAD_VALUE);
        Due.is("a 6th, too small", x.press(0), BAD_VALUE);
        Due.is("a 6th", x.press(10), TOO_MANY);
    }
}
