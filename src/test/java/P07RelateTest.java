/** Promise 7: relate. */
public final class P07RelateTest {
    public static void main(String[] args) {
        FoldedBench x = Bench.seated(-1, -1, -1);
        Due.is("neither, then friends", x.relate(0, 2, 1), 1);
        isSo(x, 2, 4, 0);
        Due.is("friends, then foes", x.relate(2, 0, -1), 2);
        isSo(x, 2, 0, 4);
        Due.is("foes, then foes", x.relate(0, 2, -1), 0);
        Due.is("foes, then neither", x.relate(0, 2, 0), 0);
        isSo(x, 2, 0, 0);
        Due.is("neither, then neither", x.relate(2, 0, 0), 1);
        Due.is("changes", x.count(12), 6);
        Due.is("neither, then foes", x.relate(0, 2, -1), 1);
        Due.is("foes, then friends", x.relate(0, 2, 1), 0);
        Due.is("another", x.relate(0, 1, 1), 1);
        Due.is("friends of 0", x.of(0, 2), 6);
        Due.is("friends of 1", x.of(1, 2), 1);
        errors(x);
        whileFolded();
        Due.end();
    }

    private static void isSo(FoldedBench x, int other, int friends, int foes) {
        Due.is("friends", x.of(0, 2), friends);
        Due.is("foes", x.of(0, 3), foes);
        Due.is("friends of the other", x.of(other, 2), friends == 0 ? 0 : 1);
        Due.is("foes of the other", x.of(other, 3), foes == 0 ? 0 : 1);
        Due.is("friends of the third", x.of(1, 2), 0);
        Due.is("foes of the third", x.of(1, 3), 0);
    }

    private static void errors(FoldedBench x) {
        String before = Bench.seen(x);
        Due.is("relate(3, 0, 1)", x.relate(3, 0, 1), FoldedBench.NO_SUCH);
        Due.is("relate(0, 3, 1)", x.relate(0, 3, 1), FoldedBench.NO_SUCH);
        Due.is("relate(-1, 0, 1)", x.relate(-1, 0, 1), FoldedBench.NO_SUCH);
        Due.is("relate(0, -1, 1)", x.relate(0, -1, 1), FoldedBench.NO_SUCH);
        Due.is("relate(3, 3, 2)", x.relate(3, 3, 2), FoldedBench.NO_SUCH);
        Due.is("relate(0, 32, 1)", x.relate(0, 32, 1), FoldedBench.NO_SUCH);
        Due.is("relate(1, 1, 1)", x.relate(1, 1, 1), FoldedBench.BAD_VALUE);
        Due.is("relate(0, 1, 2)", x.relate(0, 1, 2), FoldedBench.BAD_VALUE);
        Due.is("relate(0, 1, -2)", x.relate(0, 1, -2), FoldedBench.BAD_VALUE);
        Due.is("relate(0, 1, min)", x.relate(0, 1, Integer.MIN_VALUE), FoldedBench.BAD_VALUE);
        Due.is("nothing changes", Bench.seen(x), before);
    }

    private static void whileFolded() {
        FoldedBench x = Bench.seated(3, 4);
        x.fold(4);
        Due.is("relate(0, 1, -1)", x.relate(0, 1, -1), 1);
        Due.is("foes who face", x.count(4), 1);
        Due.is("friends who face", x.count(5), 0);
        Due.is("relate(1, 0, 1)", x.relate(1, 0, 1), 0);
        Due.is("foes who face", x.count(4), 0);
        Due.is("friends who face", x.count(5), 1);
    }
}
