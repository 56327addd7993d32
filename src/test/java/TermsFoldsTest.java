import java.util.ArrayList;
import java.util.List;

/** Terms, Folds. */
public final class TermsFoldsTest {
    public static void main(String[] args) {
        Due.about("Terms, folds");
        Due.test("An unfolded bench has a column for each seat, in its order, with a stack of just that seat",
            TermsFoldsTest::unfolded);
        Due.test("To fold a bench of w columns at a gap g, 1 to w - 1", TermsFoldsTest::everyGap);
        Due.test("the new column d is made of the column g - 1 - d (below) and of the column g + d (above)",
            TermsFoldsTest::everyColumn);
        Due.test("as far as there are such columns: the left part is the shorter one", TermsFoldsTest::leftIsShorter);
        Due.test("as far as there are such columns: the right part is the shorter one", TermsFoldsTest::rightIsShorter);
        Due.test("whose stack is turned over (above)", TermsFoldsTest::turnedAbove);
        Due.test("whose stack is turned over, also if nothing lies below it", TermsFoldsTest::turnedAlone);
        Due.test("the bench has then as many columns as the greater one of g and w - g", TermsFoldsTest::columnsThen);
        Due.test("A bench has up to 5 folds", TermsFoldsTest::fiveFolds);
        Due.test("one after the other; to unfold it is to take the latest one back", TermsFoldsTest::latestBack);
        Due.test("Two seats face each other if one lies next above the other one in a stack",
            TermsFoldsTest::seatsFace);
        Due.test("two cousins face if their seats do", TermsFoldsTest::cousinsFace);
        Due.end();
    }

    private static void unfolded() {
        for (int seats = 2; seats <= 16; seats++) {
            FoldedBench x = Bench.ofSeats(seats);
            Due.is("columns", x.count(2), seats);
            Due.is("the highest", x.count(7), 1);
            for (int seat = 0; seat < seats; seat++) {
                Due.is("column(" + seat + ", 0)", x.column(seat, 0), seat);
                Due.is("column(" + seat + ", 1)", x.column(seat, 1), FoldedBench.NO_SUCH);
            }
            Due.is("column(" + seats + ", 0)", x.column(seats, 0), FoldedBench.NO_SUCH);
        }
    }

    private static void everyGap() {
        for (int seats = 2; seats <= 16; seats++) {
            for (int gap = 1; gap < seats; gap++) {
                Due.holds("fold(" + gap + ") of " + seats, Bench.ofSeats(seats).fold(gap) > 0);
                Due.holds("press(" + gap + ") of " + seats, Bench.ofSeats(seats).press(gap) == 0);
            }
            FoldedBench x = Bench.ofSeats(seats);
            for (int gap : Bench.outside(1, seats - 1)) {
                Due.is("fold(" + gap + ") of " + seats, x.fold(gap), FoldedBench.BAD_VALUE);
                Due.is("press(" + gap + ") of " + seats, x.press(gap), FoldedBench.BAD_VALUE);
            }
        }
    }

    /** Folds each bench at each gap, and what comes of it at each gap again, as the sentence says it. */
    private static void everyColumn() {
        for (int seats = 2; seats <= 16; seats++) {
            for (int gap = 1; gap < seats; gap++) {
                for (int next = 1; next < Math.max(gap, seats - gap); next++) {
                    FoldedBench x = Bench.pressed(Bench.ofSeats(seats), gap);
                    List<String> columns = folded(flat(seats), gap);
                    Due.is(seats + ", fold(" + gap + ")", Bench.lies(x), String.join("/", columns));
                    x.press(next);
                    columns = folded(columns, next);
                    Due.is(seats + ", fold(" + gap + "), " + next, Bench.lies(x), String.join("/", columns));
                }
            }
        }
    }

    private static List<String> flat(int seats) {
        List<String> columns = new ArrayList<>();
        for (int seat = 0; seat < seats; seat++) {
            columns.add("" + seat);
        }
        return columns;
    }

    private static List<String> folded(List<String> columns, int gap) {
        List<String> then = new ArrayList<>();
        for (int d = 0; d < Math.max(gap, columns.size() - gap); d++) {
            String below = gap - 1 - d >= 0 ? columns.get(gap - 1 - d) : "";
            String above = gap + d < columns.size() ? turned(columns.get(gap + d)) : "";
            then.add(below + (below.isEmpty() || above.isEmpty() ? "" : ".") + above);
        }
        return then;
    }

    private static String turned(String column) {
        String all = "";
        for (String seat : column.split("\\.")) {
            all = seat + (all.isEmpty() ? "" : ".") + all;
        }
        return all;
    }

    private static void leftIsShorter() {
        Due.is("fold(1)", Bench.lies(Bench.pressed(Bench.ofSeats(5), 1)), "0.1/2/3/4");
        Due.is("fold(2)", Bench.lies(Bench.pressed(Bench.ofSeats(5), 2)), "1.2/0.3/4");
        Due.is("fold(3) of 8", Bench.lies(Bench.pressed(new FoldedBench(), 3)), "2.3/1.4/0.5/6/7");
    }

    private static void rightIsShorter() {
        Due.is("fold(4)", Bench.lies(Bench.pressed(Bench.ofSeats(5), 4)), "3.4/2/1/0");
        Due.is("fold(3)", Bench.lies(Bench.pressed(Bench.ofSeats(5), 3)), "2.3/1.4/0");
        Due.is("fold(7) of 8", Bench.lies(Bench.pressed(new FoldedBench(), 7)), "6.7/5/4/3/2/1/0");
    }

    private static void turnedAbove() {
        Due.is("by halves", Bench.lies(Bench.pressed(new FoldedBench(), 4, 2, 1)), "2.5.6.1.0.7.4.3");
        Due.is("the first one below", Bench.lies(Bench.pressed(new FoldedBench(), 7, 1)), "6.7.5/4/3/2/1/0");
        Due.is("one of two above", Bench.lies(Bench.pressed(Bench.ofSeats(3), 2, 1)), "1.2.0");
        Due.is("one of one above", Bench.lies(Bench.pressed(Bench.ofSeats(3), 1, 1)), "0.1.2");
    }

    private static void turnedAlone() {
        Due.is("the last one", Bench.lies(Bench.pressed(Bench.ofSeats(5), 4, 3, 1)), "1.0.2/4.3");
        Due.is("the right part", Bench.lies(Bench.pressed(Bench.ofSeats(7), 6, 5, 4, 1)), "4.6.5.3/2/0.1");
    }

    private static void columnsThen() {
        for (int seats = 2; seats <= 16; seats++) {
            for (int gap = 1; gap < seats; gap++) {
                FoldedBench x = Bench.ofSeats(seats);
                Due.is("fold(" + gap + ") of " + seats, x.fold(gap), Math.max(gap, seats - gap));
                Due.is("columns", x.count(2), Math.max(gap, seats - gap));
                Due.is("beyond", x.column(Math.max(gap, seats - gap), 0), FoldedBench.NO_SUCH);
            }
        }
    }

    private static void fiveFolds() {
        FoldedBench x = Bench.ofSeats(16);
        for (int folds = 1; folds <= 5; folds++) {
            Due.is("fold(1)", x.fold(1), 16 - folds);
            Due.is("folds", x.count(3), folds);
        }
        Due.is("a 6th", x.fold(1), FoldedBench.TOO_MANY);
        Due.is("a 6th by force", x.press(1), FoldedBench.TOO_MANY);
        Due.is("folds", x.count(3), 5);
        Due.is("unfold()", x.unfold(), 1);
        Due.is("a 5th again", x.press(1), 0);
        Due.is("folds", x.count(3), 5);
    }

    private static void latestBack() {
        FoldedBench x = new FoldedBench();
        String[] lies = new String[5];
        int[] gaps = {7, 1, 4, 2};
        for (int i = 0; i < 4; i++) {
            lies[i] = Bench.lies(x);
            x.fold(gaps[i]);
        }
        for (int i = 3; i >= 0; i--) {
            Due.is("unfold()", x.unfold(), gaps[i]);
            Due.is("how it lies", Bench.lies(x), lies[i]);
        }
    }

    private static void seatsFace() {
        FoldedBench x = Bench.pressed(new FoldedBench(), 4, 2, 1);
        int[] stack = {2, 5, 6, 1, 0, 7, 4, 3};
        for (int rank = 0; rank < 8; rank++) {
            Due.is("below " + stack[rank], x.ofSeat(stack[rank], 3), rank == 0 ? FoldedBench.NONE : stack[rank - 1]);
            Due.is("above " + stack[rank], x.ofSeat(stack[rank], 4), rank == 7 ? FoldedBench.NONE : stack[rank + 1]);
        }
    }

    /** Seats 0, 1 and 2 lie in one stack, 3 and 4 lie in the next ones. */
    private static void cousinsFace() {
        FoldedBench x = Bench.pressed(Bench.full(5), 1, 1);
        Due.is("how it lies", Bench.lies(x), "0.1.2/3/4");
        Due.is("the lowest: only who lies next above", x.of(0, 5), 2);
        Due.is("between", x.of(1, 5), 5);
        Due.is("the topmost: only who lies next below", x.of(2, 5), 2);
        Due.is("beside a stack", x.of(3, 5), 0);
        Bench.all(x, -1);
        Due.is("pairs", x.count(4), 2);
        x.unfold();
        x.unfold();
        Due.is("nobody faces on an unfolded bench", x.count(4), 0);
        x.stand(1);
        Bench.pressed(x, 1, 1);
        Due.is("an empty seat between", x.of(0, 5), 0);
        Due.is("pairs", x.count(4), 0);
    }
}
