/** Promise 1: a new object is an unfolded bench without cousins. */
public final class P01NewObjectTest {
    private static final int[] COUNTS = {0, 0, 8, 0, 0, 0, 0, 1, 8, 1, 3, 0, 0};

    public static void main(String[] args) {
        isNew(new FoldedBench());
        objectsShareNothing();
        Due.end();
    }

    private static void isNew(FoldedBench x) {
        for (int what = 0; what < COUNTS.length; what++) {
            Due.is("count(" + what + ")", x.count(what), COUNTS[what]);
        }
        Due.is("of(0, 0)", x.of(0, 0), FoldedBench.NO_SUCH);
        for (int seat = 0; seat < 8; seat++) {
            Due.is("ofSeat(" + seat + ", 0)", x.ofSeat(seat, 0), FoldedBench.NONE);
        }
        Due.is("undo()", x.undo(), FoldedBench.NOT_POSSIBLE);
        Due.is("restore(0)", x.restore(0), FoldedBench.NOT_POSSIBLE);
        Due.is("restore(1)", x.restore(1), FoldedBench.NOT_POSSIBLE);
        Due.is("fault()", x.fault(), 0);
        Due.is("how it lies", Bench.lies(x), "0/1/2/3/4/5/6/7");
    }

    private static void objectsShareNothing() {
        FoldedBench used = Bench.seated(0, 1, 2);
        used.relate(0, 1, 1);
        used.set(FoldedBench.FACE, 9);
        used.press(3);
        used.save(0);
        used.write();
        isNew(new FoldedBench());
        Due.is("cousins of the other", used.count(0), 3);
        Due.is("columns of the other", used.count(2), 5);
    }
}
