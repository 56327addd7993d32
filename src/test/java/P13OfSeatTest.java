/** Promise 13: ofSeat. */
public final class P13OfSeatTest {
    private static final int NO_SUCH = FoldedBench.NO_SUCH;
    private static final int BAD_VALUE = FoldedBench.BAD_VALUE;
    private static final int NONE = FoldedBench.NONE;

    public static void main(String[] args) {
        Due.about("Promise 13, ofSeat");
        Due.test("0 who sits there: the first cousin, the last one", P13OfSeatTest::sitter);
        Due.test("0 who sits there (NONE)", P13OfSeatTest::noSitter);
        Due.test("1 its column: the first, the last", P13OfSeatTest::column);
        Due.test("2 how many seats lie below it there: 0 to 15", P13OfSeatTest::below);
        Due.test("3 the seat next below it, 4 the one next above it", P13OfSeatTest::nextSeats);
        Due.test("3, 4 (NONE): the lowest, the topmost, and a stack of one", P13OfSeatTest::noNextSeats);
        Due.test("as it lies then: folded again, and unfolded", P13OfSeatTest::asItLies);
        Due.test("NO_SUCH if there is no such seat", P13OfSeatTest::noSuchSeat);
        Due.test("BAD_VALUE if what is out of range", P13OfSeatTest::whatOutOfRange);
        Due.test("which comes first: NO_SUCH, BAD_VALUE", P13OfSeatTest::firstError);
        Due.end();
    }

    private static void is(FoldedBench x, int seat, int... due) {
        for (int what = 0; what < 5; what++) {
            Due.is("ofSeat(" + seat + ", " + what + ")", x.ofSeat(seat, what), due[what]);
        }
    }

    private static void sitter() {
        FoldedBench x = Bench.full(12);
        for (int seat = 0; seat < 12; seat++) {
            Due.is("ofSeat(" + seat + ", 0)", x.ofSeat(seat, 0), seat);
        }
        Due.is("the first cousin on the last seat", Bench.seated(7).ofSeat(7, 0), 0);
    }

    private static void noSitter() {
        FoldedBench x = Bench.seated(3, -1);
        for (int seat = 0; seat < 8; seat++) {
            Due.is("ofSeat(" + seat + ", 0)", x.ofSeat(seat, 0), seat == 3 ? 0 : NONE);
        }
        x.stand(0);
        Due.is("who stood up", x.ofSeat(3, 0), NONE);
    }

    private static void column() {
        FoldedBench x = Bench.ofSeats(16);
        Due.is("the first", x.ofSeat(0, 1), 0);
        Due.is("the last", x.ofSeat(15, 1), 15);
        x.fold(8);
        for (int seat = 0; seat < 16; seat++) {
            Due.is("ofSeat(" + seat + ", 1)", x.ofSeat(seat, 1), seat < 8 ? 7 - seat : seat - 8);
        }
        Bench.pressed(x, 4, 2, 1);
        for (int seat = 0; seat < 16; seat++) {
            Due.is("one column", x.ofSeat(seat, 1), 0);
        }
    }

    private static void below() {
        FoldedBench x = Bench.pressed(Bench.ofSeats(16), 8, 4, 2, 1);
        int[] stack = {5, 10, 13, 2, 1, 14, 9, 6, 7, 8, 15, 0, 3, 12, 11, 4};
        for (int rank = 0; rank < 16; rank++) {
            Due.is("ofSeat(" + stack[rank] + ", 2)", x.ofSeat(stack[rank], 2), rank);
        }
        Due.is("unfolded", new FoldedBench().ofSeat(7, 2), 0);
    }

    private static void nextSeats() {
        FoldedBench x = Bench.pressed(Bench.seated(3, 7), 3, 2);
        Due.is("how it lies", Bench.lies(x), "1.4.5.0/2.3.6/7");
        is(x, 4, NONE, 0, 1, 1, 5);
        is(x, 5, NONE, 0, 2, 4, 0);
        is(x, 3, 0, 1, 1, 2, 6);
    }

    private static void noNextSeats() {
        FoldedBench x = Bench.pressed(Bench.seated(3, 7), 3, 2);
        is(x, 1, NONE, 0, 0, NONE, 4);
        is(x, 0, NONE, 0, 3, 5, NONE);
        is(x, 2, NONE, 1, 0, NONE, 3);
        is(x, 6, NONE, 1, 2, 3, NONE);
        is(x, 7, 1, 2, 0, NONE, NONE);
        is(new FoldedBench(), 0, NONE, 0, 0, NONE, NONE);
        is(Bench.ofSeats(16), 15, NONE, 15, 0, NONE, NONE);
    }

    private static void asItLies() {
        FoldedBench x = Bench.seated(3, 7);
        is(x, 3, 0, 3, 0, NONE, NONE);
        x.fold(3);
        is(x, 3, 0, 0, 1, 2, NONE);
        x.fold(2);
        is(x, 3, 0, 1, 1, 2, 6);
        x.unfold();
        is(x, 3, 0, 0, 1, 2, NONE);
        x.unfold();
        is(x, 3, 0, 3, 0, NONE, NONE);
    }

    private static void noSuchSeat() {
        FoldedBench x = Bench.lived();
        for (int seat : Bench.outside(0, 7)) {
            for (int what = 0; what <= 4; what++) {
                Due.is("ofSeat(" + seat + ", " + what + ")", x.ofSeat(seat, what), NO_SUCH);
            }
        }
        Bench.refuses("ofSeat(8, 0)", NO_SUCH, Bench::lived, y -> y.ofSeat(8, 0));
        Due.is("of sixteen", Bench.ofSeats(16).ofSeat(16, 1), NO_SUCH);
        Due.is("of two", Bench.ofSeats(2).ofSeat(2, 1), NO_SUCH);
        Due.is("the seats, not the columns, of a folded bench", Bench.pressed(new FoldedBench(), 4).ofSeat(7, 1), 3);
    }

    private static void whatOutOfRange() {
        FoldedBench x = Bench.lived();
        for (int what : Bench.outside(0, 4)) {
            Due.is("ofSeat(3, " + what + ")", x.ofSeat(3, what), BAD_VALUE);
            Due.is("ofSeat(7, " + what + "), where nobody sits", x.ofSeat(7, what), BAD_VALUE);
        }
        Bench.refuses("ofSeat(0, 5)", BAD_VALUE, Bench::lived, y -> y.ofSeat(0, 5));
    }

    private static void firstError() {
        FoldedBench x = Bench.lived();
        Due.is("ofSeat(8, 5)", x.ofSeat(8, 5), NO_SUCH);
        Due.is("ofSeat(-1, -1)", x.ofSeat(-1, -1), NO_SUCH);
    }
}
