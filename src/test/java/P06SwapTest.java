/** Promise 6: swap. */
public final class P06SwapTest {
    public static void main(String[] args) {
        FoldedBench x = Bench.seated(0, 7);
        Due.is("both taken", x.swap(0, 7), 2);
        Due.is("cousin 0", x.of(0, 0), 7);
        Due.is("cousin 1", x.of(1, 0), 0);
        Due.is("one taken", x.swap(7, 3), 1);
        Due.is("cousin 0", x.of(0, 0), 3);
        Due.is("one taken, the other way", x.swap(5, 3), 1);
        Due.is("cousin 0", x.of(0, 0), 5);
        Due.is("none taken", x.swap(1, 2), 0);
        Due.is("changes", x.count(12), 6);
        String before = Bench.seen(x);
        Due.is("swap(8, 0)", x.swap(8, 0), FoldedBench.NO_SUCH);
        Due.is("swap(0, 8)", x.swap(0, 8), FoldedBench.NO_SUCH);
        Due.is("swap(-1, 0)", x.swap(-1, 0), FoldedBench.NO_SUCH);
        Due.is("swap(0, -1)", x.swap(0, -1), FoldedBench.NO_SUCH);
        Due.is("swap(8, 8)", x.swap(8, 8), FoldedBench.NO_SUCH);
        Due.is("swap(5, 5)", x.swap(5, 5), FoldedBench.BAD_VALUE);
        Due.is("nothing changes", Bench.seen(x), before);
        x.fold(1);
        Due.is("folded", x.swap(0, 5), FoldedBench.NOT_POSSIBLE);
        Due.is("folded, the same", x.swap(5, 5), FoldedBench.BAD_VALUE);
        Due.is("folded, no such seat", x.swap(0, 8), FoldedBench.NO_SUCH);
        Due.is("cousin 0", x.of(0, 0), 5);
        Due.end();
    }
}
