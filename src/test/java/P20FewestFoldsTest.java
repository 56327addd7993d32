/** Promise 20: fewestFolds. */
public final class P20FewestFoldsTest {
    private static final int NONE = FoldedBench.NONE;

    public static void main(String[] args) {
        emptyBenches();
        aroundFoes();
        withFoldsAlready();
        foesFaceAlready();
        Due.end();
    }

    private static void emptyBenches() {
        int[] due = {0, 0, 1, 2, 2, 3, 3, 3, 3, 4, 4, 4, 4, 4, 4, 4, 4};
        for (int seats = 2; seats <= 16; seats++) {
            FoldedBench x = Bench.ofSeats(seats);
            Due.is("fewest folds of " + seats, x.fewestFolds(), due[seats]);
            Due.is("folds", x.count(3), 0);
        }
    }

    private static void aroundFoes() {
        FoldedBench x = Bench.ofSeats(2);
        pairOfFoes(x, 0, 1);
        Due.is("the only fold is refused", x.fewestFolds(), NONE);
        x = Bench.ofSeats(4);
        pairOfFoes(x, 0, 3);
        String before = Bench.seen(x);
        Due.is("not by halves", x.fewestFolds(), 3);
        Due.is("nothing changes", Bench.seen(x), before);
        x = Bench.ofSeats(3);
        pairOfFoes(x, 0, 1);
        Due.is("1 on 2, then 0", x.fewestFolds(), 2);
        x.cousin();
        x.sit(2, 2);
        x.relate(1, 2, -1);
        Due.is("one foe in the middle", x.fewestFolds(), NONE);
        x = Bench.ofSeats(4);
        for (int i = 0; i < 4; i++) {
            x.cousin();
            x.sit(i, i);
        }
        x.relate(0, 1, -1);
        Due.is("by halves", x.fewestFolds(), 2);
        x.relate(2, 3, -1);
        Due.is("only the middle is free, and only once", x.fewestFolds(), NONE);
    }

    private static void pairOfFoes(FoldedBench x, int seat, int other) {
        x.cousin();
        x.cousin();
        x.sit(0, seat);
        x.sit(1, other);
        x.relate(0, 1, -1);
    }

    private static void withFoldsAlready() {
        FoldedBench x = Bench.ofSeats(16);
        int[] due = {4, 4, NONE, NONE, NONE, NONE};
        for (int folds = 0; folds <= 5; folds++) {
            Due.is("after " + folds, x.fewestFolds(), due[folds]);
            x.fold(1);
        }
        x = Bench.ofSeats(16);
        for (int gap = 8; gap > 1; gap /= 2) {
            x.fold(gap);
        }
        Due.is("two columns", x.fewestFolds(), 1);
        x.fold(1);
        Due.is("one column", x.fewestFolds(), 0);
        x = Bench.ofSeats(9);
        for (int gap : new int[] {1, 4, 2, 1}) {
            Due.is("fold(" + gap + ")", x.fold(gap) > 0 ? 1 : 0, 1);
        }
        Due.is("one column", x.fewestFolds(), 0);
        x = Bench.ofSeats(6);
        for (int i = 0; i < 5; i++) {
            x.fold(1);
        }
        Due.is("one column by five folds", x.fewestFolds(), 0);
        x = Bench.ofSeats(7);
        for (int i = 0; i < 5; i++) {
            x.fold(1);
        }
        Due.is("two columns by five folds", x.fewestFolds(), NONE);
    }

    private static void foesFaceAlready() {
        FoldedBench x = Bench.ofSeats(4);
        pairOfFoes(x, 1, 2);
        x.press(2);
        Due.is("foes face", x.fewestFolds(), NONE);
        x.press(1);
        Due.is("foes face in one column", x.fewestFolds(), 0);
    }
}
