/** Promise 4: sit. */
public final class P04SitTest {
    public static void main(String[] args) {
        sitsAndMoves();
        errors();
        Due.end();
    }

    private static void sitsAndMoves() {
        FoldedBench x = Bench.seated(-1, -1);
        Due.is("sit(0, 0)", x.sit(0, 0), FoldedBench.NONE);
        Due.is("changes", x.count(12), 3);
        Due.is("sit(0, 7)", x.sit(0, 7), 0);
        Due.is("changes", x.count(12), 4);
        Due.is("the seat", x.of(0, 0), 7);
        Due.is("the seat's", x.ofSeat(7, 0), 0);
        Due.is("the old seat's", x.ofSeat(0, 0), FoldedBench.NONE);
        Due.is("sit(1, 0)", x.sit(1, 0), FoldedBench.NONE);
        Due.is("who sit", x.count(1), 3);
    }

    private static void errors() {
        FoldedBench x = Bench.seated(3, 4);
        String before = Bench.seen(x);
        Due.is("sit(2, 0)", x.sit(2, 0), FoldedBench.NO_SUCH);
        Due.is("sit(-1, 0)", x.sit(-1, 0), FoldedBench.NO_SUCH);
        Due.is("sit(0, 8)", x.sit(0, 8), FoldedBench.NO_SUCH);
        Due.is("sit(0, -1)", x.sit(0, -1), FoldedBench.NO_SUCH);
        Due.is("sit(0, NONE)", x.sit(0, FoldedBench.NONE), FoldedBench.NO_SUCH);
        Due.is("sit(min, max)", x.sit(Integer.MIN_VALUE, Integer.MAX_VALUE), FoldedBench.NO_SUCH);
        Due.is("another's seat", x.sit(0, 4), FoldedBench.NOT_POSSIBLE);
        Due.is("the own seat", x.sit(0, 3), FoldedBench.NOT_POSSIBLE);
        Due.is("nothing changes", Bench.seen(x), before);
        x.fold(4);
        Due.is("folded", x.sit(0, 0), FoldedBench.NOT_POSSIBLE);
        Due.is("folded, no such seat", x.sit(0, 8), FoldedBench.NO_SUCH);
        Due.is("the seat", x.of(0, 0), 3);
    }
}
