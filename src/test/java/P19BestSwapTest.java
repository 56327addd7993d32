/** Promise 19: bestSwap. */
public final class P19BestSwapTest {
    public static void main(String[] args) {
        unfolded();
        folded();
        notAll();
        noSwapHelps();
        errors();
        Due.end();
    }

    private static void is(FoldedBench x, int lower, int higher, int pairs) {
        String before = Bench.seen(x);
        Due.is("bestSwap(0)", x.bestSwap(0), lower);
        Due.is("bestSwap(1)", x.bestSwap(1), higher);
        Due.is("bestSwap(2)", x.bestSwap(2), pairs);
        Due.is("nothing changes", Bench.seen(x), before);
    }

    private static void unfolded() {
        FoldedBench x = Bench.seated(3, 4);
        x.relate(0, 1, -1);
        is(x, 0, 1, 0);
    }

    private static void folded() {
        FoldedBench x = Bench.seated(3, 4, 7);
        x.relate(0, 1, -1);
        x.press(4);
        Due.is("pairs", x.count(4), 1);
        is(x, 0, 3, 0);
        x.relate(0, 2, -1);
        is(x, 0, 4, 0);
        x.relate(1, 2, -1);
        is(x, 1, 3, 0);
        x.relate(0, 1, 0);
        x.relate(1, 2, 0);
        x.relate(0, 2, 0);
        is(x, 0, 1, 0);
    }

    /** All four face a foe, or would; a swap leaves one pair of the two. */
    private static void notAll() {
        FoldedBench x = new FoldedBench();
        x.set(FoldedBench.SEATS, 4);
        for (int i = 0; i < 4; i++) {
            x.cousin();
            x.sit(i, i);
        }
        for (int i = 1; i < 4; i++) {
            x.relate(0, i, -1);
        }
        x.relate(1, 2, -1);
        x.press(2);
        Due.is("how it lies", Bench.lies(x), "1.2/0.3");
        Due.is("pairs", x.count(4), 2);
        is(x, 0, 1, 1);
        x.relate(1, 2, 0);
        Due.is("pairs", x.count(4), 1);
        is(x, 0, 1, 1);
    }

    private static void noSwapHelps() {
        FoldedBench x = new FoldedBench();
        x.set(FoldedBench.SEATS, 2);
        x.cousin();
        x.cousin();
        x.sit(0, 0);
        x.sit(1, 1);
        x.relate(0, 1, -1);
        x.press(1);
        is(x, 0, 1, 1);
    }

    private static void errors() {
        FoldedBench x = new FoldedBench();
        int[] none = {-1, 3, Integer.MIN_VALUE, Integer.MAX_VALUE};
        for (int what : none) {
            Due.is("bestSwap(" + what + ")", x.bestSwap(what), FoldedBench.BAD_VALUE);
        }
    }
}
