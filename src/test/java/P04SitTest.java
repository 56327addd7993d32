/** Promise 4: sit. */
public final class P04SitTest {
    private static final int NO_SUCH = FoldedBench.NO_SUCH;
    private static final int NOT_POSSIBLE = FoldedBench.NOT_POSSIBLE;
    private static final int NONE = FoldedBench.NONE;

    public static void main(String[] args) {
        Due.about("Promise 4, sit");
        Due.test("A cousin sits down, or moves to another seat", P04SitTest::sitsAndMoves);
        Due.test("This is a change", P04SitTest::isAChange);
        Due.test("Returns the seat on which the cousin was (NONE)", P04SitTest::seatBefore);
        Due.test("on the first seat, and on the last one", P04SitTest::firstAndLast);
        Due.test("NO_SUCH if there is no such cousin", P04SitTest::noSuchCousin);
        Due.test("NO_SUCH if there is no such seat", P04SitTest::noSuchSeat);
        Due.test("NOT_POSSIBLE if the bench is folded", P04SitTest::folded);
        Due.test("NOT_POSSIBLE if somebody sits there", P04SitTest::taken);
        Due.test("(perhaps the cousin)", P04SitTest::ownSeat);
        Due.test("which comes first: NO_SUCH, NOT_POSSIBLE", P04SitTest::firstError);
        Due.end();
    }

    private static void sitsAndMoves() {
        FoldedBench x = Bench.seated(-1, -1);
        x.sit(0, 0);
        Due.is("the seat", x.of(0, 0), 0);
        x.sit(0, 7);
        Due.is("the seat", x.of(0, 0), 7);
        Due.is("who sits there", x.ofSeat(7, 0), 0);
        Due.is("nobody sits on the old one", x.ofSeat(0, 0), NONE);
        Due.is("another may, then", x.sit(1, 0), NONE);
        Due.is("who sit", x.count(1), 3);
    }

    private static void isAChange() {
        FoldedBench x = Bench.seated(-1);
        x.sit(0, 4);
        Due.is("changes", x.count(12), 2);
        x.sit(0, 5);
        Due.is("changes", x.count(12), 3);
        x.undo();
        Due.is("as before", x.of(0, 0), 4);
        Due.is("nobody there", x.ofSeat(5, 0), NONE);
        x.undo();
        Due.is("as before", x.of(0, 0), NONE);
    }

    private static void seatBefore() {
        FoldedBench x = Bench.seated(-1);
        Due.is("who stood", x.sit(0, 0), NONE);
        Due.is("from seat 0", x.sit(0, 7), 0);
        Due.is("from seat 7", x.sit(0, 3), 7);
        x.stand(0);
        Due.is("who stands again", x.sit(0, 7), NONE);
    }

    private static void firstAndLast() {
        for (int seats : new int[] {2, 8, 12, 16}) {
            FoldedBench x = Bench.settle(Bench.ofSeats(seats), -1, -1);
            Due.is("the first", x.sit(0, 0), NONE);
            Due.is("the last", x.sit(1, seats - 1), NONE);
            Due.is("behind the last", x.sit(1, seats), NO_SUCH);
            Due.is("before the first", x.sit(0, -1), NO_SUCH);
        }
        FoldedBench x = Bench.full(12);
        Due.is("the last cousin", x.ofSeat(11, 0), 11);
        Due.is("the last cousin is free to move where seats are", x.set(FoldedBench.SEATS, 13), 12);
        Due.is("sit(11, 12)", x.sit(11, 12), 11);
    }

    private static void noSuchCousin() {
        for (int cousin : Bench.outside(0, 2)) {
            Bench.refuses("sit(" + cousin + ", 1)", NO_SUCH, Bench::lived, x -> x.sit(cousin, 1));
        }
        Due.is("nobody is there", new FoldedBench().sit(0, 0), NO_SUCH);
        FoldedBench x = Bench.settle(Bench.ofSeats(16), -1, -1, -1, -1, -1, -1, -1, -1, -1, -1, -1, -1);
        Due.is("of twelve", x.sit(12, 0), NO_SUCH);
        Due.is("the last of twelve", x.sit(11, 0), NONE);
    }

    private static void noSuchSeat() {
        for (int seat : Bench.outside(0, 7)) {
            Bench.refuses("sit(0, " + seat + ")", NO_SUCH, Bench::lived, x -> x.sit(0, seat));
        }
    }

    private static void folded() {
        Bench.refuses("a free seat", NOT_POSSIBLE, Bench::livedAndFolded, x -> x.sit(0, 7));
        FoldedBench x = Bench.settle(Bench.ofSeats(16), -1);
        Bench.foldedTimes(x, 5);
        for (int folds = 5; folds > 0; folds--) {
            Due.is("with " + folds + " folds", x.sit(0, 0), NOT_POSSIBLE);
            x.unfold();
        }
        Due.is("unfolded", x.sit(0, 0), NONE);
    }

    private static void taken() {
        Bench.refuses("another's seat", NOT_POSSIBLE, Bench::lived, x -> x.sit(0, 4));
        Bench.refuses("the first cousin's seat", NOT_POSSIBLE, Bench::lived, x -> x.sit(1, 3));
        Bench.refuses("by one who stands", NOT_POSSIBLE, () -> Bench.seated(0, 7, -1), x -> x.sit(2, 7));
    }

    private static void ownSeat() {
        Bench.refuses("the own seat", NOT_POSSIBLE, Bench::lived, x -> x.sit(0, 3));
        Bench.refuses("the own seat, the first one", NOT_POSSIBLE, () -> Bench.seated(0), x -> x.sit(0, 0));
    }

    private static void firstError() {
        FoldedBench x = Bench.livedAndFolded();
        Due.is("no such cousin, folded", x.sit(3, 1), NO_SUCH);
        Due.is("no such seat, folded", x.sit(0, 8), NO_SUCH);
        Due.is("no such seat, folded", x.sit(0, -1), NO_SUCH);
        x.unfold();
        Due.is("no such cousin, taken", x.sit(3, 3), NO_SUCH);
        Due.is("neither one nor the other", x.sit(-1, 8), NO_SUCH);
    }
}
