/** Promise 5: stand. */
public final class P05StandTest {
    private static final int NO_SUCH = FoldedBench.NO_SUCH;
    private static final int NOT_POSSIBLE = FoldedBench.NOT_POSSIBLE;

    public static void main(String[] args) {
        Due.about("Promise 5, stand");
        Due.test("A cousin stands up", P05StandTest::standsUp);
        Due.test("This is a change", P05StandTest::isAChange);
        Due.test("Returns the seat: also the first, and the last one", P05StandTest::seat);
        Due.test("NO_SUCH if there is no such cousin", P05StandTest::noSuchCousin);
        Due.test("NOT_POSSIBLE if the bench is folded", P05StandTest::folded);
        Due.test("NOT_POSSIBLE if the cousin stands", P05StandTest::stands);
        Due.test("which comes first: NO_SUCH, NOT_POSSIBLE", P05StandTest::firstError);
        Due.end();
    }

    private static void standsUp() {
        FoldedBench x = Bench.seated(0, 7);
        x.stand(0);
        Due.is("the seat", x.of(0, 0), FoldedBench.NONE);
        Due.is("nobody there", x.ofSeat(0, 0), FoldedBench.NONE);
        Due.is("who sit", x.count(1), 2);
        x.stand(1);
        Due.is("who sit", x.count(1), 0);
    }

    private static void isAChange() {
        FoldedBench x = Bench.seated(5);
        x.stand(0);
        Due.is("changes", x.count(12), 3);
        Due.is("undo()", x.undo(), 2);
        Due.is("as before", x.of(0, 0), 5);
    }

    private static void seat() {
        FoldedBench x = Bench.settle(Bench.ofSeats(16), 0, 15, 7);
        Due.is("the last seat", x.stand(1), 15);
        Due.is("the first seat", x.stand(0), 0);
        Due.is("one between", x.stand(2), 7);
        x = Bench.full(12);
        for (int i = 11; i >= 0; i--) {
            Due.is("stand(" + i + ")", x.stand(i), i);
        }
    }

    private static void noSuchCousin() {
        for (int cousin : Bench.outside(0, 2)) {
            Bench.refuses("stand(" + cousin + ")", NO_SUCH, Bench::lived, x -> x.stand(cousin));
        }
        Due.is("nobody is there", new FoldedBench().stand(0), NO_SUCH);
        Due.is("of twelve", Bench.full(12).stand(12), NO_SUCH);
    }

    private static void folded() {
        Bench.refuses("stand(0)", NOT_POSSIBLE, Bench::livedAndFolded, x -> x.stand(0));
        FoldedBench x = Bench.foldedTimes(Bench.settle(Bench.ofSeats(16), 15), 5);
        for (int folds = 5; folds > 0; folds--) {
            Due.is("with " + folds + " folds", x.stand(0), NOT_POSSIBLE);
            x.unfold();
        }
        Due.is("unfolded", x.stand(0), 15);
    }

    private static void stands() {
        Bench.refuses("one who never sat", NOT_POSSIBLE, () -> Bench.seated(0, -1), x -> x.stand(1));
        FoldedBench x = Bench.seated(0);
        x.stand(0);
        String before = Bench.seen(x);
        Due.is("one who stood up", x.stand(0), NOT_POSSIBLE);
        Due.is("nothing changes", Bench.seen(x), before);
    }

    private static void firstError() {
        FoldedBench x = Bench.livedAndFolded();
        Due.is("no such cousin, folded", x.stand(3), NO_SUCH);
        Due.is("no such cousin, folded", x.stand(-1), NO_SUCH);
    }
}
