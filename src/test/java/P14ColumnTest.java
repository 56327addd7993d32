/** Promise 14: column. */
public final class P14ColumnTest {
    private static final int NO_SUCH = FoldedBench.NO_SUCH;

    public static void main(String[] args) {
        Due.about("Promise 14, column");
        Due.test("Returns a seat of a column, from below", P14ColumnTest::fromBelow);
        Due.test("the first column, and the last one", P14ColumnTest::firstAndLast);
        Due.test("a stack of 16", P14ColumnTest::sixteen);
        Due.test("NO_SUCH if there is no such column", P14ColumnTest::noSuchColumn);
        Due.test("or it has not so many", P14ColumnTest::notSoMany);
        Due.end();
    }

    private static void holds(FoldedBench x, int column, int... seats) {
        for (int rank = 0; rank < seats.length; rank++) {
            Due.is("column(" + column + ", " + rank + ")", x.column(column, rank), seats[rank]);
        }
        for (int rank : Bench.outside(0, seats.length - 1)) {
            Due.is("column(" + column + ", " + rank + ")", x.column(column, rank), NO_SUCH);
        }
    }

    private static void fromBelow() {
        FoldedBench x = Bench.pressed(new FoldedBench(), 3, 2);
        Due.is("how it lies", Bench.lies(x), "1.4.5.0/2.3.6/7");
        holds(x, 0, 1, 4, 5, 0);
        holds(x, 1, 2, 3, 6);
        holds(x, 2, 7);
    }

    private static void firstAndLast() {
        for (int seats = 2; seats <= 16; seats++) {
            FoldedBench x = Bench.ofSeats(seats);
            holds(x, 0, 0);
            holds(x, seats - 1, seats - 1);
            x.fold(1);
            Due.is("the last one then", x.column(seats - 2, 0), seats == 2 ? 0 : seats - 1);
            Due.is("behind it", x.column(seats - 1, 0), NO_SUCH);
        }
    }

    private static void sixteen() {
        FoldedBench x = Bench.pressed(Bench.ofSeats(16), 8, 4, 2, 1);
        holds(x, 0, 5, 10, 13, 2, 1, 14, 9, 6, 7, 8, 15, 0, 3, 12, 11, 4);
        Due.is("column(1, 0)", x.column(1, 0), NO_SUCH);
    }

    private static void noSuchColumn() {
        FoldedBench x = Bench.livedAndFolded();
        for (int column : Bench.outside(0, 4)) {
            Due.is("column(" + column + ", 0)", x.column(column, 0), NO_SUCH);
            Due.is("column(" + column + ", 1)", x.column(column, 1), NO_SUCH);
        }
        Bench.refuses("column(5, 0)", NO_SUCH, Bench::livedAndFolded, y -> y.column(5, 0));
        Due.is("of sixteen", Bench.ofSeats(16).column(16, 0), NO_SUCH);
        Due.is("neither one nor the other", x.column(-1, -1), NO_SUCH);
    }

    private static void notSoMany() {
        FoldedBench x = Bench.livedAndFolded();
        Due.is("how it lies", Bench.lies(x), "2.3/1.4/0.5/6/7");
        holds(x, 2, 0, 5);
        holds(x, 3, 6);
        holds(x, 4, 7);
        Bench.refuses("column(3, 1)", NO_SUCH, Bench::livedAndFolded, y -> y.column(3, 1));
        Bench.refuses("column(0, -1)", NO_SUCH, Bench::livedAndFolded, y -> y.column(0, -1));
    }
}
