/** Promise 12: of. */
public final class P12OfTest {
    public static void main(String[] args) {
        neighboursAndThoseWhoFace();
        standing();
        moods();
        moodsHaveEnds();
        errors();
        Due.end();
    }

    private static void neighboursAndThoseWhoFace() {
        FoldedBench x = Bench.seated(0, 1, 2, 6, 7, -1);
        is(x, 0, 0, 5, 0, 0, 2, 0);
        is(x, 1, 1, 5, 0, 0, 5, 0);
        is(x, 4, 7, 5, 0, 0, 8, 0);
        x.fold(4);
        is(x, 0, 0, 5, 0, 0, 2, 16);
        is(x, 1, 1, 5, 0, 0, 5, 8);
        is(x, 2, 2, 5, 0, 0, 2, 0);
        is(x, 4, 7, 5, 0, 0, 8, 1);
        x.fold(2);
        Due.is("how it lies", Bench.lies(x), "2.5.6.1/3.4.7.0");
        is(x, 3, 6, 5, 0, 0, 16, 2);
        is(x, 2, 2, 5, 0, 0, 2, 0);
        x.fold(1);
        Due.is("how it lies", Bench.lies(x), "2.5.6.1.0.7.4.3");
        is(x, 0, 0, 5, 0, 0, 2, 18);
        is(x, 1, 1, 5, 0, 0, 5, 9);
    }

    private static void is(FoldedBench x, int cousin, int... due) {
        for (int what = 0; what < 6; what++) {
            Due.is("of(" + cousin + ", " + what + ")", x.of(cousin, what), due[what]);
        }
    }

    private static void standing() {
        FoldedBench x = Bench.seated(-1, 0, 7);
        x.relate(0, 1, 1);
        x.relate(0, 2, -1);
        is(x, 0, FoldedBench.NONE, FoldedBench.NONE, 2, 4, 0, 0);
        x.fold(1);
        is(x, 0, FoldedBench.NONE, FoldedBench.NONE, 2, 4, 0, 0);
        is(x, 1, 0, 5, 1, 0, 0, 0);
    }

    private static void moods() {
        FoldedBench x = Bench.seated(3, 4, 2);
        x.relate(0, 1, -1);
        Due.is("a foe beside", x.of(0, 1), 4);
        x.relate(0, 2, 1);
        Due.is("and a friend beside", x.of(0, 1), 5);
        Due.is("the friend", x.of(2, 1), 6);
        x.set(FoldedBench.NEAR, 2);
        x.press(4);
        Due.is("the foe faces, too", x.of(0, 1), 2);
        Due.is("the foe", x.of(1, 1), 0);
        Due.is("the friend", x.of(2, 1), 7);
        x.set(FoldedBench.FACE, 1);
        Due.is("a face of 1", x.of(0, 1), 4);
        Due.is("the foe", x.of(1, 1), 2);
        x.relate(0, 1, 1);
        Due.is("two friends", x.of(0, 1), 9);
        Due.is("the friend who faces", x.of(1, 1), 8);
        x.relate(0, 1, 0);
        Due.is("neither", x.of(1, 1), 5);
        x = Bench.seated(0, 3, 5);
        x.relate(0, 1, 1);
        x.relate(0, 2, 1);
        x.relate(1, 2, -1);
        Due.is("nobody near", x.of(0, 1), 5);
    }

    private static void moodsHaveEnds() {
        FoldedBench x = Bench.seated(1, 0, 2);
        x.set(FoldedBench.NEAR, 5);
        x.relate(0, 1, 1);
        Due.is("9 at most", x.of(0, 1), 9);
        x.relate(0, 1, -1);
        Due.is("0", x.of(0, 1), 0);
        x.relate(0, 2, -1);
        Due.is("0 at least", x.of(0, 1), 0);
        x.relate(0, 2, 1);
        Due.is("only the sum has ends", x.of(0, 1), 5);
        x.set(FoldedBench.NEAR, 2);
        x.relate(0, 1, 1);
        Due.is("9", x.of(0, 1), 9);
        x.relate(0, 1, -1);
        x.relate(0, 2, -1);
        Due.is("1", x.of(0, 1), 1);
    }

    private static void errors() {
        FoldedBench x = Bench.seated(0);
        int[] none = {-1, 1, 12, FoldedBench.NONE, Integer.MIN_VALUE, Integer.MAX_VALUE};
        for (int cousin : none) {
            Due.is("of(" + cousin + ", 0)", x.of(cousin, 0), FoldedBench.NO_SUCH);
            Due.is("of(" + cousin + ", 6)", x.of(cousin, 6), FoldedBench.NO_SUCH);
        }
        int[] nothing = {-1, 6, Integer.MIN_VALUE, Integer.MAX_VALUE};
        for (int what : nothing) {
            Due.is("of(0, " + what + ")", x.of(0, what), FoldedBench.BAD_VALUE);
        }
        x.stand(0);
        Due.is("of(0, 6), standing", x.of(0, 6), FoldedBench.BAD_VALUE);
    }
}
