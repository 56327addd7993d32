/** Promise 20: fewestFolds. */
public final class P20FewestFoldsTest {
    private static final int NONE = FoldedBench.NONE;

    public static void main(String[] args) {
        Due.about("Promise 20, fewestFolds");
        Due.test("the fewest further folds by which the bench has one column: of each bench",
            P20FewestFoldsTest::empty);
        Due.test("further folds: those that it has do not count", P20FewestFoldsTest::further);
        Due.test("none of which would be refused: around foes", P20FewestFoldsTest::aroundFoes);
        Due.test("none of which would be refused: neither the first nor a later one", P20FewestFoldsTest::laterFolds);
        Due.test("none of which would be refused: foes face already", P20FewestFoldsTest::foesFaceAlready);
        Due.test("Returns how many (0 if it has one)", P20FewestFoldsTest::oneColumn);
        Due.test("up to 5 folds in all: 5 are not too many", P20FewestFoldsTest::fiveInAll);
        Due.test("NONE if there are none up to 5 folds in all", P20FewestFoldsTest::sixInAll);
        Due.test("NONE if it has 5 folds, and more columns", P20FewestFoldsTest::fiveFolds);
        Due.test("what if; nothing changes", P20FewestFoldsTest::nothingChanges);
        Due.end();
    }

    private static void empty() {
        int[] due = {0, 0, 1, 2, 2, 3, 3, 3, 3, 4, 4, 4, 4, 4, 4, 4, 4};
        for (int seats = 2; seats <= 16; seats++) {
            Due.is("of " + seats, Bench.ofSeats(seats).fewestFolds(), due[seats]);
        }
    }

    private static void further() {
        FoldedBench x = Bench.ofSeats(16);
        int due = 4;
        for (int gap = 8; gap >= 1; gap /= 2) {
            Due.is("fewest", x.fewestFolds(), due);
            x.fold(gap);
            due--;
        }
        Due.is("none more", x.fewestFolds(), 0);
        for (int i = 0; i < 4; i++) {
            x.unfold();
        }
        Due.is("unfolded again", x.fewestFolds(), 4);
    }

    private static void aroundFoes() {
        Due.is("four without foes", Bench.withFoes(4).fewestFolds(), 2);
        Due.is("not by halves", Bench.withFoes(4, 0, 3).fewestFolds(), 3);
        Due.is("by halves", Bench.withFoes(4, 0, 1).fewestFolds(), 2);
        Due.is("1 on 2, then 0", Bench.withFoes(3, 0, 1).fewestFolds(), 2);
        FoldedBench x = Bench.withFoes(4, 0, 3);
        x.stand(3);
        Due.is("a foe who stands is none", x.fewestFolds(), 2);
    }

    private static void laterFolds() {
        Due.is("the only fold", Bench.withFoes(2, 0, 1).fewestFolds(), NONE);
        Due.is("each first fold", Bench.withFoes(3, 0, 1, 1, 2).fewestFolds(), NONE);
        Due.is("the second fold, whatever the first", Bench.withFoes(4, 0, 1, 2, 3).fewestFolds(), NONE);
        FoldedBench x = Bench.withFoes(4, 0, 1, 2, 3);
        Due.is("the first fold", x.fold(2), 2);
        Due.is("the second one", x.fewestFolds(), NONE);
        Due.is("the second one", x.fold(1), FoldedBench.NOT_POSSIBLE);
    }

    private static void foesFaceAlready() {
        FoldedBench x = Bench.pressed(Bench.withFoes(4, 1, 2), 2);
        Due.is("foes face", x.fewestFolds(), NONE);
        x.relate(1, 2, 0);
        Due.is("no foes any more", x.fewestFolds(), 1);
        x = Bench.pressed(Bench.withFoes(12, 0, 1), 1);
        Due.is("foes face on a long bench", x.fewestFolds(), NONE);
    }

    private static void oneColumn() {
        Due.is("of two seats", Bench.pressed(Bench.ofSeats(2), 1).fewestFolds(), 0);
        Due.is("of sixteen seats", Bench.pressed(Bench.ofSeats(16), 8, 4, 2, 1).fewestFolds(), 0);
        Due.is("by five folds", Bench.foldedTimes(Bench.ofSeats(6), 5).fewestFolds(), 0);
        Due.is("foes face in it", Bench.pressed(Bench.withFoes(2, 0, 1), 1).fewestFolds(), 0);
        FoldedBench x = Bench.pressed(Bench.all(Bench.full(6), -1), 1, 1, 1, 1, 1);
        Due.is("foes face in it, by five folds", x.fewestFolds(), 0);
    }

    /** Only neighbours may face, so that a fold can lay but one column over another one. */
    private static FoldedBench neighboursAlone(int seats) {
        FoldedBench x = Bench.full(seats);
        for (int i = 0; i < seats; i++) {
            for (int j = 0; j < i - 1; j++) {
                x.relate(i, j, -1);
            }
        }
        return x;
    }

    private static void fiveInAll() {
        for (int seats = 2; seats <= 6; seats++) {
            Due.is("one by one, " + seats, neighboursAlone(seats).fewestFolds(), seats - 1);
        }
        for (int folds = 0; folds <= 5; folds++) {
            Due.is("after " + folds, Bench.foldedTimes(neighboursAlone(6), folds).fewestFolds(), 5 - folds);
        }
        Due.is("after one that was not needed", Bench.foldedTimes(Bench.ofSeats(16), 1).fewestFolds(), 4);
    }

    private static void sixInAll() {
        Due.is("six would be needed", neighboursAlone(7).fewestFolds(), NONE);
        Due.is("eleven would be needed", neighboursAlone(12).fewestFolds(), NONE);
        for (int folds = 1; folds <= 5; folds++) {
            Due.is("after " + folds, Bench.foldedTimes(neighboursAlone(7), folds).fewestFolds(), NONE);
        }
        FoldedBench x = Bench.foldedTimes(Bench.ofSeats(16), 2);
        Due.is("four more are too many", x.fewestFolds(), NONE);
        Due.is("by halves", x.fold(7), 7);
        Due.is("three more are too many", x.fewestFolds(), NONE);
        Due.is("two more are enough for four columns", Bench.pressed(Bench.ofSeats(16), 15, 8, 4).fewestFolds(), 2);
    }

    private static void fiveFolds() {
        FoldedBench x = Bench.foldedTimes(Bench.ofSeats(7), 5);
        Due.is("columns", x.count(2), 2);
        Due.is("two columns", x.fewestFolds(), NONE);
        x.unfold();
        Due.is("three columns, four folds", x.fewestFolds(), NONE);
        x = Bench.foldedTimes(Bench.ofSeats(6), 4);
        Due.is("two columns, four folds", x.fewestFolds(), 1);
        Due.is("eleven columns", Bench.foldedTimes(Bench.ofSeats(16), 5).fewestFolds(), NONE);
    }

    private static void nothingChanges() {
        FoldedBench x = Bench.livedAndFolded();
        String before = Bench.seen(x) + Bench.pad(x);
        Due.is("fewestFolds()", x.fewestFolds(), 3);
        Due.is("all after it", Bench.seen(x) + Bench.pad(x), before);
        Due.is("unfold()", x.unfold(), 3);
        Due.is("unfold()", x.unfold(), FoldedBench.NOT_POSSIBLE);
        Due.is("how it lies", Bench.lies(x), "0/1/2/3/4/5/6/7");
    }
}
