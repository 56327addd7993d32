/** Promise 6: swap. */
public final class P06SwapTest {
    private static final int NO_SUCH = FoldedBench.NO_SUCH;
    private static final int BAD_VALUE = FoldedBench.BAD_VALUE;
    private static final int NOT_POSSIBLE = FoldedBench.NOT_POSSIBLE;

    public static void main(String[] args) {
        Due.about("Promise 6, swap");
        Due.test("Who sits on two seats change places", P06SwapTest::changePlaces);
        Due.test("(perhaps nobody)", P06SwapTest::perhapsNobody);
        Due.test("This is a change: also if nobody sits on either", P06SwapTest::isAChange);
        Due.test("Returns how many cousins have another seat by that: 0, 1, 2", P06SwapTest::howMany);
        Due.test("NO_SUCH if there is no such seat", P06SwapTest::noSuchSeat);
        Due.test("BAD_VALUE if both are the same", P06SwapTest::same);
        Due.test("NOT_POSSIBLE if the bench is folded", P06SwapTest::folded);
        Due.test("which comes first: NO_SUCH, BAD_VALUE, NOT_POSSIBLE", P06SwapTest::firstError);
        Due.end();
    }

    private static void changePlaces() {
        FoldedBench x = Bench.settle(Bench.ofSeats(16), 0, 15, 4);
        x.swap(0, 15);
        Due.is("from the first seat", x.of(0, 0), 15);
        Due.is("from the last seat", x.of(1, 0), 0);
        x.swap(4, 0);
        Due.is("the higher one named first", x.of(1, 0), 4);
        Due.is("the higher one named first", x.of(2, 0), 0);
        Due.is("a third stays", x.of(0, 0), 15);
    }

    private static void perhapsNobody() {
        FoldedBench x = Bench.seated(7);
        x.swap(7, 3);
        Due.is("the cousin", x.of(0, 0), 3);
        Due.is("nobody there", x.ofSeat(7, 0), FoldedBench.NONE);
        x.swap(5, 3);
        Due.is("the cousin", x.of(0, 0), 5);
        Due.is("nobody there", x.ofSeat(3, 0), FoldedBench.NONE);
        x.swap(1, 2);
        Due.is("nobody there", x.ofSeat(1, 0), FoldedBench.NONE);
        Due.is("who sit", x.count(1), 1);
    }

    private static void isAChange() {
        FoldedBench x = Bench.seated(0);
        x.swap(6, 7);
        Due.is("changes", x.count(12), 3);
        x.swap(0, 7);
        Due.is("changes", x.count(12), 4);
        Due.is("undo()", x.undo(), 3);
        Due.is("as before", x.of(0, 0), 0);
        Due.is("undo()", x.undo(), 2);
        Due.is("as before", x.of(0, 0), 0);
    }

    private static void howMany() {
        FoldedBench x = Bench.seated(0, 7, -1);
        Due.is("both taken", x.swap(0, 7), 2);
        Due.is("the first taken", x.swap(0, 3), 1);
        Due.is("the other taken", x.swap(1, 7), 1);
        Due.is("none taken", x.swap(5, 6), 0);
    }

    private static void noSuchSeat() {
        for (int seat : Bench.outside(0, 7)) {
            Bench.refuses("swap(" + seat + ", 3)", NO_SUCH, Bench::lived, x -> x.swap(seat, 3));
            Bench.refuses("swap(3, " + seat + ")", NO_SUCH, Bench::lived, x -> x.swap(3, seat));
        }
    }

    private static void same() {
        Bench.refuses("a taken seat", BAD_VALUE, Bench::lived, x -> x.swap(3, 3));
        Bench.refuses("a free seat", BAD_VALUE, Bench::lived, x -> x.swap(7, 7));
        Bench.refuses("the first seat", BAD_VALUE, Bench::lived, x -> x.swap(0, 0));
    }

    private static void folded() {
        Bench.refuses("taken seats", NOT_POSSIBLE, Bench::livedAndFolded, x -> x.swap(3, 4));
        Bench.refuses("free seats", NOT_POSSIBLE, Bench::livedAndFolded, x -> x.swap(6, 7));
        FoldedBench x = Bench.foldedTimes(Bench.settle(Bench.ofSeats(16), 15), 5);
        for (int folds = 5; folds > 0; folds--) {
            Due.is("with " + folds + " folds", x.swap(0, 15), NOT_POSSIBLE);
            x.unfold();
        }
        Due.is("unfolded", x.swap(0, 15), 1);
    }

    private static void firstError() {
        FoldedBench x = Bench.lived();
        Due.is("no such seat, the same", x.swap(8, 8), NO_SUCH);
        Due.is("no such seat, the same", x.swap(-1, -1), NO_SUCH);
        x.fold(3);
        Due.is("no such seat, the same, folded", x.swap(8, 8), NO_SUCH);
        Due.is("no such seat, folded", x.swap(0, 8), NO_SUCH);
        Due.is("no such seat, folded", x.swap(-1, 0), NO_SUCH);
        Due.is("the same, folded", x.swap(3, 3), BAD_VALUE);
        Due.is("folded", x.swap(3, 4), NOT_POSSIBLE);
    }
}
