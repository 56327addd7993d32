/** Promise 2: set. */
public final class P02SetTest {
    public static void main(String[] args) {
        ranges(FoldedBench.SEATS, 8, 2, 16);
        ranges(FoldedBench.NEAR, 1, 0, 5);
        ranges(FoldedBench.FACE, 3, 0, 9);
        noSuchSetting();
        seatsOfAFoldedBench();
        seatsWithSitters();
        settingsCount();
        Due.end();
    }

    private static void ranges(int setting, int first, int lowest, int highest) {
        FoldedBench x = new FoldedBench();
        Due.is("lowest", x.set(setting, lowest), first);
        Due.is("below", x.set(setting, lowest - 1), FoldedBench.BAD_VALUE);
        Due.is("highest", x.set(setting, highest), lowest);
        Due.is("above", x.set(setting, highest + 1), FoldedBench.BAD_VALUE);
        Due.is("least int", x.set(setting, Integer.MIN_VALUE), FoldedBench.BAD_VALUE);
        Due.is("greatest int", x.set(setting, Integer.MAX_VALUE), FoldedBench.BAD_VALUE);
        Due.is("the value", x.count(8 + setting), highest);
        Due.is("the same again", x.set(setting, highest), highest);
        Due.is("changes", x.count(12), 3);
    }

    private static void noSuchSetting() {
        FoldedBench x = new FoldedBench();
        int[] none = {-1, 3, Integer.MIN_VALUE, Integer.MAX_VALUE};
        for (int setting : none) {
            Due.is("set(" + setting + ", 2)", x.set(setting, 2), FoldedBench.BAD_VALUE);
        }
        Due.is("changes", x.count(12), 0);
    }

    private static void seatsOfAFoldedBench() {
        FoldedBench x = new FoldedBench();
        x.fold(4);
        Due.is("other seats", x.set(FoldedBench.SEATS, 9), FoldedBench.NOT_POSSIBLE);
        Due.is("the same seats", x.set(FoldedBench.SEATS, 8), FoldedBench.NOT_POSSIBLE);
        Due.is("seats out of range", x.set(FoldedBench.SEATS, 17), FoldedBench.BAD_VALUE);
        Due.is("near", x.set(FoldedBench.NEAR, 5), 1);
        Due.is("face", x.set(FoldedBench.FACE, 0), 3);
        Due.is("columns", x.count(2), 4);
        Due.is("unfold()", x.unfold(), 4);
        Due.is("unfolded", x.set(FoldedBench.SEATS, 9), 8);
        Due.is("how it lies", Bench.lies(x), "0/1/2/3/4/5/6/7/8");
        Due.is("a fold there", x.fold(8), 8);
    }

    private static void seatsWithSitters() {
        FoldedBench x = Bench.seated(5);
        Due.is("set(SEATS, 5)", x.set(FoldedBench.SEATS, 5), FoldedBench.NOT_POSSIBLE);
        Due.is("set(SEATS, 2)", x.set(FoldedBench.SEATS, 2), FoldedBench.NOT_POSSIBLE);
        Due.is("set(SEATS, 1)", x.set(FoldedBench.SEATS, 1), FoldedBench.BAD_VALUE);
        Due.is("set(SEATS, 6)", x.set(FoldedBench.SEATS, 6), 8);
        Due.is("the seat", x.of(0, 0), 5);
        Due.is("no seat", x.sit(0, 6), FoldedBench.NO_SUCH);
        Due.is("set(SEATS, 16)", x.set(FoldedBench.SEATS, 16), 6);
        Due.is("nobody there", x.ofSeat(15, 0), FoldedBench.NONE);
        Due.is("a new seat", x.sit(0, 15), 5);
        Due.is("set(SEATS, 15)", x.set(FoldedBench.SEATS, 15), FoldedBench.NOT_POSSIBLE);
    }

    private static void settingsCount() {
        FoldedBench x = Bench.seated(0, 1);
        x.relate(0, 1, 1);
        x.set(FoldedBench.NEAR, 2);
        Due.is("mood by near", x.of(0, 1), 7);
        x.set(FoldedBench.NEAR, 0);
        x.press(1);
        x.set(FoldedBench.FACE, 2);
        Due.is("mood by face", x.of(0, 1), 7);
    }
}
