/** Promise 3: cousin. */
public final class P03CousinTest {
    public static void main(String[] args) {
        FoldedBench x = new FoldedBench();
        x.fold(1);
        for (int i = 0; i < 12; i++) {
            Due.is("cousin()", x.cousin(), i);
            Due.is("stands", x.of(i, 0), FoldedBench.NONE);
            Due.is("has no friends", x.of(i, 2), 0);
            Due.is("has no foes", x.of(i, 3), 0);
            Due.is("cousins", x.count(0), i + 1);
            Due.is("changes", x.count(12), Math.min(6, i + 2));
        }
        Due.is("of(12, 0)", x.of(12, 0), FoldedBench.NO_SUCH);
        String before = Bench.seen(x);
        Due.is("a 13th", x.cousin(), FoldedBench.TOO_MANY);
        Due.is("nothing changes", Bench.seen(x), before);
        x.undo();
        Due.is("cousins", x.count(0), 11);
        Due.is("the 12th again", x.cousin(), 11);
        comesAgainAsNew();
        Due.end();
    }

    /** A cousin whose coming was undone leaves nothing behind. */
    private static void comesAgainAsNew() {
        FoldedBench x = Bench.seated(0);
        x.cousin();
        x.relate(0, 1, -1);
        x.sit(1, 3);
        x.undo();
        x.undo();
        x.undo();
        Due.is("foes", x.of(0, 3), 0);
        Due.is("cousin()", x.cousin(), 1);
        Due.is("foes then", x.of(1, 3), 0);
        Due.is("stands", x.of(1, 0), FoldedBench.NONE);
        Due.is("nobody there", x.ofSeat(3, 0), FoldedBench.NONE);
    }
}
