/** Promise 14: column. */
public final class P14ColumnTest {
    public static void main(String[] args) {
        FoldedBench x = new FoldedBench();
        for (int c = 0; c < 8; c++) {
            holds(x, c, c);
        }
        x.fold(3);
        x.fold(2);
        Due.is("how it lies", Bench.lies(x), "1.4.5.0/2.3.6/7");
        holds(x, 0, 1, 4, 5, 0);
        holds(x, 1, 2, 3, 6);
        holds(x, 2, 7);
        int[] none = {-1, 3, 8, 16, FoldedBench.NONE, Integer.MIN_VALUE, Integer.MAX_VALUE};
        for (int column : none) {
            Due.is("column(" + column + ", 0)", x.column(column, 0), FoldedBench.NO_SUCH);
        }
        x = Bench.ofSeats(16);
        Due.is("column(15, 0)", x.column(15, 0), 15);
        Due.is("column(16, 0)", x.column(16, 0), FoldedBench.NO_SUCH);
        x.fold(8);
        x.fold(4);
        x.fold(2);
        x.fold(1);
        holds(x, 0, 5, 10, 13, 2, 1, 14, 9, 6, 7, 8, 15, 0, 3, 12, 11, 4);
        Due.is("column(1, 0)", x.column(1, 0), FoldedBench.NO_SUCH);
        Due.end();
    }

    private static void holds(FoldedBench x, int column, int... seats) {
        for (int rank = 0; rank < seats.length; rank++) {
            Due.is("column(" + column + ", " + rank + ")", x.column(column, rank), seats[rank]);
        }
        int[] none = {-1, seats.length, 16, Integer.MIN_VALUE, Integer.MAX_VALUE};
        for (int rank : none) {
            Due.is("column(" + column + ", " + rank + ")", x.column(column, rank), FoldedBench.NO_SUCH);
        }
    }
}
