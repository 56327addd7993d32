/** Promise 1: a new object. */
public final class P01NewObjectTest {
    private static final int[] COUNTS = {0, 0, 8, 0, 0, 0, 0, 1, 8, 1, 3, 0, 0};

    public static void main(String[] args) {
        Due.about("Promise 1, a new object");
        Due.test("an unfolded bench", P01NewObjectTest::unfolded);
        Due.test("without cousins", P01NewObjectTest::withoutCousins);
        Due.test("nothing has been written, saved or changed", P01NewObjectTest::nothingYet);
        Due.test("each object for itself", P01NewObjectTest::objectsShareNothing);
        Due.end();
    }

    private static void isNew(FoldedBench x) {
        for (int what = 0; what < COUNTS.length; what++) {
            Due.is("count(" + what + ")", x.count(what), COUNTS[what]);
        }
        Due.is("how it lies", Bench.lies(x), "0/1/2/3/4/5/6/7");
    }

    private static void unfolded() {
        isNew(new FoldedBench());
        Due.is("unfold()", new FoldedBench().unfold(), FoldedBench.NOT_POSSIBLE);
    }

    private static void withoutCousins() {
        FoldedBench x = new FoldedBench();
        Due.is("cousins", x.count(0), 0);
        Due.is("of(0, 0)", x.of(0, 0), FoldedBench.NO_SUCH);
        Due.is("sit(0, 0)", x.sit(0, 0), FoldedBench.NO_SUCH);
        Due.is("stand(0)", x.stand(0), FoldedBench.NO_SUCH);
        Due.is("relate(0, 1, 1)", x.relate(0, 1, 1), FoldedBench.NO_SUCH);
        for (int seat = 0; seat < 8; seat++) {
            Due.is("ofSeat(" + seat + ", 0)", x.ofSeat(seat, 0), FoldedBench.NONE);
        }
        Due.is("the first one", x.cousin(), 0);
    }

    private static void nothingYet() {
        FoldedBench x = new FoldedBench();
        Due.is("sign(0)", x.sign(0), FoldedBench.NO_SUCH);
        Due.is("wipe()", x.wipe(), 0);
        Due.is("fault()", x.fault(), 0);
        Due.is("carryOut()", x.carryOut(), FoldedBench.BAD_TEXT);
        Due.is("undo()", x.undo(), FoldedBench.NOT_POSSIBLE);
        Due.is("restore(0)", x.restore(0), FoldedBench.NOT_POSSIBLE);
        Due.is("restore(1)", x.restore(1), FoldedBench.NOT_POSSIBLE);
    }

    private static void objectsShareNothing() {
        FoldedBench used = Bench.seated(0, 1, 2);
        used.relate(0, 1, 1);
        used.set(FoldedBench.FACE, 9);
        used.press(3);
        used.save(0);
        used.write();
        isNew(new FoldedBench());
        Due.is("restore(0)", new FoldedBench().restore(0), FoldedBench.NOT_POSSIBLE);
        Due.is("cousins of the other", used.count(0), 3);
        Due.is("columns of the other", used.count(2), 5);
    }
}
