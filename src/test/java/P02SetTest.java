/** Promise 2: set. The ranges are tested by TermsSettingsTest, too. */
public final class P02SetTest {
    private static final int SEATS = FoldedBench.SEATS;
    private static final int NEAR = FoldedBench.NEAR;
    private static final int FACE = FoldedBench.FACE;
    private static final int BAD_VALUE = FoldedBench.BAD_VALUE;
    private static final int NOT_POSSIBLE = FoldedBench.NOT_POSSIBLE;

    public static void main(String[] args) {
        Due.about("Promise 2, set");
        Due.test("Changes a setting", P02SetTest::settingsCount);
        Due.test("Returns the previous value: also if it is the same", P02SetTest::previousValue);
        Due.test("This is a change: also if it is the same", P02SetTest::isAChange);
        Due.test("BAD_VALUE if there is no such setting", P02SetTest::noSuchSetting);
        Due.test("BAD_VALUE if the value is out of its range", P02SetTest::outOfRange);
        Due.test("NOT_POSSIBLE if it is SEATS, and the bench is folded", P02SetTest::foldedBench);
        Due.test("if it is SEATS: NEAR and FACE are possible then", P02SetTest::othersWhileFolded);
        Due.test("or somebody sits on a seat that would not be there: just there, and just not", P02SetTest::sitters);
        Due.test("somebody sits: who stands does not hinder", P02SetTest::standers);
        Due.test("which comes first: BAD_VALUE, NOT_POSSIBLE", P02SetTest::firstError);
        Due.end();
    }

    private static void settingsCount() {
        FoldedBench x = Bench.full(2);
        x.relate(0, 1, 1);
        x.set(NEAR, 2);
        Due.is("mood by near", x.of(0, 1), 7);
        x.set(NEAR, 0);
        x.press(1);
        x.set(FACE, 2);
        Due.is("mood by face", x.of(0, 1), 7);
        x.unfold();
        x.set(SEATS, 9);
        Due.is("how it lies", Bench.lies(x), "0/1/2/3/4/5/6/7/8");
        Due.is("a fold there", x.fold(8), 8);
    }

    private static void previousValue() {
        FoldedBench x = new FoldedBench();
        Due.is("set(SEATS, 16)", x.set(SEATS, 16), 8);
        Due.is("set(SEATS, 2)", x.set(SEATS, 2), 16);
        Due.is("set(SEATS, 2)", x.set(SEATS, 2), 2);
        Due.is("set(NEAR, 5)", x.set(NEAR, 5), 1);
        Due.is("set(NEAR, 0)", x.set(NEAR, 0), 5);
        Due.is("set(NEAR, 0)", x.set(NEAR, 0), 0);
        Due.is("set(FACE, 9)", x.set(FACE, 9), 3);
        Due.is("set(FACE, 0)", x.set(FACE, 0), 9);
        Due.is("set(FACE, 0)", x.set(FACE, 0), 0);
        Due.is("set(SEATS, 3)", x.set(SEATS, 3), 2);
    }

    private static void isAChange() {
        int[] first = {8, 1, 3};
        for (int setting = 0; setting < 3; setting++) {
            FoldedBench x = new FoldedBench();
            x.set(setting, first[setting]);
            Due.is("the same", x.count(12), 1);
            x.set(setting, 2);
            Due.is("another", x.count(12), 2);
            Due.is("undo()", x.undo(), 1);
            Due.is("as before", x.count(8 + setting), first[setting]);
            Due.is("columns", x.count(2), 8);
        }
    }

    private static void noSuchSetting() {
        for (int setting : Bench.outside(0, 2)) {
            Bench.refuses("set(" + setting + ", 2)", BAD_VALUE, Bench::lived, x -> x.set(setting, 2));
        }
    }

    private static void outOfRange() {
        for (int value : Bench.outside(2, 16)) {
            Bench.refuses("set(SEATS, " + value + ")", BAD_VALUE, Bench::lived, x -> x.set(SEATS, value));
        }
        for (int value : Bench.outside(0, 5)) {
            Bench.refuses("set(NEAR, " + value + ")", BAD_VALUE, Bench::lived, x -> x.set(NEAR, value));
        }
        for (int value : Bench.outside(0, 9)) {
            Bench.refuses("set(FACE, " + value + ")", BAD_VALUE, Bench::lived, x -> x.set(FACE, value));
        }
    }

    private static void foldedBench() {
        for (int seats = 2; seats <= 16; seats++) {
            Due.is("set(SEATS, " + seats + ")", Bench.pressed(new FoldedBench(), 4).set(SEATS, seats), NOT_POSSIBLE);
        }
        Bench.refuses("more seats", NOT_POSSIBLE, Bench::livedAndFolded, x -> x.set(SEATS, 9));
        Bench.refuses("the same", NOT_POSSIBLE, Bench::livedAndFolded, x -> x.set(SEATS, 8));
        FoldedBench x = Bench.foldedTimes(Bench.ofSeats(16), 5);
        for (int folds = 5; folds > 0; folds--) {
            Due.is("with " + folds + " folds", x.set(SEATS, 16), NOT_POSSIBLE);
            x.unfold();
        }
        Due.is("unfolded", x.set(SEATS, 15), 16);
    }

    private static void othersWhileFolded() {
        FoldedBench x = Bench.foldedTimes(Bench.ofSeats(16), 5);
        Due.is("near", x.set(NEAR, 5), 1);
        Due.is("face", x.set(FACE, 0), 3);
        Due.is("columns", x.count(2), 11);
        Due.is("near", x.count(9), 5);
        Due.is("face", x.count(10), 0);
    }

    private static void sitters() {
        for (int seat = 0; seat < 16; seat++) {
            FoldedBench x = Bench.settle(Bench.ofSeats(16), seat);
            for (int seats = 2; seats <= 16; seats++) {
                boolean stays = seat < seats;
                int due = stays ? x.count(8) : NOT_POSSIBLE;
                Due.is(seat + " is taken, set(SEATS, " + seats + ")", x.set(SEATS, seats), due);
                Due.is("the seat", x.of(0, 0), seat);
            }
        }
        Bench.refuses("just one too few", NOT_POSSIBLE, Bench::lived, x -> x.set(SEATS, 4));
        Due.is("just enough", Bench.lived().set(SEATS, 5), 8);
        Bench.refuses("the last of several", NOT_POSSIBLE, () -> Bench.seated(7, 0, 1), x -> x.set(SEATS, 7));
    }

    private static void standers() {
        FoldedBench x = Bench.seated(-1, 7);
        x.stand(1);
        Due.is("set(SEATS, 2)", x.set(SEATS, 2), 8);
        Due.is("set(SEATS, 8)", x.set(SEATS, 8), 2);
        Due.is("nobody is on the seat that has come back", x.ofSeat(7, 0), FoldedBench.NONE);
        x.sit(1, 7);
        x.sit(1, 1);
        Due.is("who moved does not, either", x.set(SEATS, 2), 8);
    }

    private static void firstError() {
        FoldedBench x = Bench.pressed(Bench.seated(7), 3);
        Due.is("folded, too small", x.set(SEATS, 1), BAD_VALUE);
        Due.is("folded, too large", x.set(SEATS, 17), BAD_VALUE);
        Due.is("folded, no such setting", x.set(3, 8), BAD_VALUE);
        Due.is("folded", x.set(SEATS, 2), NOT_POSSIBLE);
        x.unfold();
        Due.is("somebody sits, too small", x.set(SEATS, 1), BAD_VALUE);
        Due.is("somebody sits, less than none", x.set(SEATS, -1), BAD_VALUE);
        Due.is("somebody sits", x.set(SEATS, 2), NOT_POSSIBLE);
    }
}
