/** Promise 13: ofSeat. */
public final class P13OfSeatTest {
    private static final int NONE = FoldedBench.NONE;

    public static void main(String[] args) {
        FoldedBench x = Bench.seated(3, 7);
        is(x, 3, 0, 3, 0, NONE, NONE);
        is(x, 0, NONE, 0, 0, NONE, NONE);
        x.fold(3);
        Due.is("how it lies", Bench.lies(x), "2.3/1.4/0.5/6/7");
        is(x, 3, 0, 0, 1, 2, NONE);
        is(x, 2, NONE, 0, 0, NONE, 3);
        is(x, 7, 1, 4, 0, NONE, NONE);
        x.fold(2);
        Due.is("how it lies", Bench.lies(x), "1.4.5.0/2.3.6/7");
        is(x, 1, NONE, 0, 0, NONE, 4);
        is(x, 4, NONE, 0, 1, 1, 5);
        is(x, 5, NONE, 0, 2, 4, 0);
        is(x, 0, NONE, 0, 3, 5, NONE);
        is(x, 2, NONE, 1, 0, NONE, 3);
        is(x, 3, 0, 1, 1, 2, 6);
        is(x, 6, NONE, 1, 2, 3, NONE);
        is(x, 7, 1, 2, 0, NONE, NONE);
        x.unfold();
        is(x, 3, 0, 0, 1, 2, NONE);
        errors(x);
        Due.end();
    }

    private static void is(FoldedBench x, int seat, int... due) {
        for (int what = 0; what < 5; what++) {
            Due.is("ofSeat(" + seat + ", " + what + ")", x.ofSeat(seat, what), due[what]);
        }
    }

    private static void errors(FoldedBench x) {
        int[] none = {-1, 8, 16, NONE, Integer.MIN_VALUE, Integer.MAX_VALUE};
        for (int seat : none) {
            Due.is("ofSeat(" + seat + ", 0)", x.ofSeat(seat, 0), FoldedBench.NO_SUCH);
            Due.is("ofSeat(" + seat + ", 5)", x.ofSeat(seat, 5), FoldedBench.NO_SUCH);
        }
        int[] nothing = {-1, 5, Integer.MIN_VALUE, Integer.MAX_VALUE};
        for (int what : nothing) {
            Due.is("ofSeat(0, " + what + ")", x.ofSeat(0, what), FoldedBench.BAD_VALUE);
        }
        FoldedBench y = Bench.ofSeats(16);
        is(y, 15, NONE, 15, 0, NONE, NONE);
        y.set(FoldedBench.SEATS, 3);
        Due.is("ofSeat(3, 0)", y.ofSeat(3, 0), FoldedBench.NO_SUCH);
    }
}
