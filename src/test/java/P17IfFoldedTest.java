/** Promise 17: ifFolded. */
public final class P17IfFoldedTest {
    public static void main(String[] args) {
        FoldedBench x = Bench.seated(3, 4, 0);
        x.relate(0, 1, -1);
        x.relate(0, 2, 1);
        String before = Bench.seen(x);
        is(x, 4, 1, 0, 7, 4, 2);
        is(x, 3, 0, 0, 13, 5, 2);
        is(x, 2, 0, 1, 19, 6, 2);
        is(x, 1, 0, 0, 13, 7, 2);
        is(x, 7, 0, 0, 13, 7, 2);
        Due.is("nothing changes", Bench.seen(x), before);
        ofAFoldedBench();
        errors();
        Due.end();
    }

    private static void is(FoldedBench x, int gap, int... due) {
        for (int what = 0; what < 5; what++) {
            Due.is("ifFolded(" + gap + ", " + what + ")", x.ifFolded(gap, what), due[what]);
        }
    }

    private static void ofAFoldedBench() {
        FoldedBench x = Bench.seated(3, 4, 5, 0);
        x.relate(0, 1, -1);
        x.relate(2, 3, 1);
        x.press(4);
        is(x, 2, 1, 0, 12, 2, 4);
        x.press(2);
        Due.is("how it lies", Bench.lies(x), "2.5.6.1/3.4.7.0");
        is(x, 1, 1, 0, 12, 1, 8);
        is(x, 2, FoldedBench.BAD_VALUE, FoldedBench.BAD_VALUE, FoldedBench.BAD_VALUE, FoldedBench.BAD_VALUE,
            FoldedBench.BAD_VALUE);
    }

    private static void errors() {
        FoldedBench x = Bench.ofSeats(16);
        int[] none = {0, -1, 16, Integer.MIN_VALUE, Integer.MAX_VALUE};
        for (int gap : none) {
            Due.is("ifFolded(" + gap + ", 0)", x.ifFolded(gap, 0), FoldedBench.BAD_VALUE);
        }
        int[] nothing = {-1, 5, Integer.MIN_VALUE, Integer.MAX_VALUE};
        for (int what : nothing) {
            Due.is("ifFolded(1, " + what + ")", x.ifFolded(1, what), FoldedBench.BAD_VALUE);
        }
        for (int i = 0; i < 5; i++) {
            Due.is("columns", x.ifFolded(1, 3), 15 - i);
            x.fold(1);
        }
        Due.is("a 6th", x.ifFolded(1, 0), FoldedBench.TOO_MANY);
        Due.is("a 6th, no such gap", x.ifFolded(11, 0), FoldedBench.BAD_VALUE);
        Due.is("a 6th, no such what", x.ifFolded(1, 5), FoldedBench.BAD_VALUE);
        Due.is("folds", x.count(3), 5);
        Due.is("columns", x.count(2), 11);
    }
}
