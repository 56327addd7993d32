/** Promise 5: stand. */
public final class P05StandTest {
    public static void main(String[] args) {
        FoldedBench x = Bench.seated(0, 7, -1);
        Due.is("stand(0)", x.stand(0), 0);
        Due.is("stands", x.of(0, 0), FoldedBench.NONE);
        Due.is("nobody there", x.ofSeat(0, 0), FoldedBench.NONE);
        Due.is("who sit", x.count(1), 2);
        String before = Bench.seen(x);
        Due.is("stand(0) again", x.stand(0), FoldedBench.NOT_POSSIBLE);
        Due.is("one who never sat", x.stand(2), FoldedBench.NOT_POSSIBLE);
        Due.is("stand(3)", x.stand(3), FoldedBench.NO_SUCH);
        Due.is("stand(-1)", x.stand(-1), FoldedBench.NO_SUCH);
        Due.is("stand(NONE)", x.stand(FoldedBench.NONE), FoldedBench.NO_SUCH);
        Due.is("stand(max)", x.stand(Integer.MAX_VALUE), FoldedBench.NO_SUCH);
        Due.is("nothing changes", Bench.seen(x), before);
        x.fold(4);
        Due.is("folded", x.stand(1), FoldedBench.NOT_POSSIBLE);
        Due.is("folded, no such cousin", x.stand(3), FoldedBench.NO_SUCH);
        x.unfold();
        x.set(FoldedBench.NEAR, 0);
        Due.is("stand(1)", x.stand(1), 7);
        Due.is("a change", x.count(12), 6);
        x.undo();
        Due.is("undone", x.of(1, 0), 7);
        Due.end();
    }
}
