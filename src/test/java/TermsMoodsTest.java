/** Terms, Moods. */
public final class TermsMoodsTest {
    private static final int NEAR = FoldedBench.NEAR;
    private static final int FACE = FoldedBench.FACE;

    public static void main(String[] args) {
        Due.about("Terms, moods");
        Due.test("The mood of a cousin who sits is 5: with nobody near, or nobody who matters", TermsMoodsTest::five);
        Due.test("NEAR more for each friend on a seat next to the own one", TermsMoodsTest::friendsBeside);
        Due.test("less for each foe on a seat next to the own one", TermsMoodsTest::foesBeside);
        Due.test("next to the own one along the bench: not two seats away, nor around its ends",
            TermsMoodsTest::nextOnly);
        Due.test("along the bench: also while it is folded", TermsMoodsTest::besideWhileFolded);
        Due.test("FACE more for each friend who faces", TermsMoodsTest::friendsFace);
        Due.test("less for each foe who faces", TermsMoodsTest::foesFace);
        Due.test("one who is beside and faces counts for both", TermsMoodsTest::besideAndFaces);
        Due.test("NEAR 0 and FACE 0 take and give nothing", TermsMoodsTest::nothing);
        Due.test("0 at least", TermsMoodsTest::zeroAtLeast);
        Due.test("9 at most", TermsMoodsTest::nineAtMost);
        Due.test("0 at least, 9 at most: of the whole sum alone", TermsMoodsTest::wholeSum);
        Due.test("(One who stands has none.)", TermsMoodsTest::standing);
        Due.test("A toast is the sum of the moods of all who sit: nobody, all, and the greatest",
            TermsMoodsTest::toasts);
        Due.end();
    }

    private static void five() {
        FoldedBench x = Bench.seated(3);
        Due.is("alone", x.of(0, 1), 5);
        x = Bench.full(12);
        for (int i = 0; i < 12; i++) {
            Due.is("neither friends nor foes", x.of(i, 1), 5);
        }
        Bench.pressed(x, 6, 3, 1, 1);
        for (int i = 0; i < 12; i++) {
            Due.is("neither friends nor foes, in one stack", x.of(i, 1), 5);
        }
    }

    private static void friendsBeside() {
        FoldedBench x = Bench.all(Bench.full(3), 1);
        x.set(NEAR, 2);
        Due.is("one on the right", x.of(0, 1), 7);
        Due.is("two", x.of(1, 1), 9);
        Due.is("one on the left", x.of(2, 1), 7);
        x.relate(0, 1, 0);
        Due.is("one of two", x.of(1, 1), 7);
    }

    private static void foesBeside() {
        FoldedBench x = Bench.all(Bench.full(3), -1);
        x.set(NEAR, 2);
        Due.is("one on the right", x.of(0, 1), 3);
        Due.is("two", x.of(1, 1), 1);
        Due.is("one on the left", x.of(2, 1), 3);
        x.relate(1, 2, 1);
        Due.is("a foe and a friend", x.of(1, 1), 5);
    }

    private static void nextOnly() {
        FoldedBench x = Bench.all(Bench.seated(0, 2, 7), -1);
        for (int i = 0; i < 3; i++) {
            Due.is("the mood of " + i, x.of(i, 1), 5);
        }
        x.sit(1, 6);
        Due.is("beside the last", x.of(2, 1), 4);
        x.sit(1, 1);
        Due.is("beside the first", x.of(0, 1), 4);
    }

    private static void besideWhileFolded() {
        FoldedBench x = Bench.seated(0, 1, 3);
        x.relate(0, 1, 1);
        x.relate(0, 2, 1);
        Bench.pressed(x, 2);
        Due.is("how it lies", Bench.lies(x), "1.2/0.3/4/5/6/7");
        Due.is("beside along the bench, and one who faces", x.of(0, 1), 9);
        x.relate(0, 2, 0);
        Due.is("beside along the bench", x.of(0, 1), 6);
        Due.is("beside along the bench", x.of(1, 1), 6);
        x.relate(1, 2, 1);
        Due.is("only beside as the columns lie", x.of(2, 1), 5);
    }

    /** Cousins on three of four seats of a stack; the lowest seat is free. */
    private static FoldedBench stacked(int how) {
        FoldedBench x = Bench.all(Bench.seated(4, 5, 0), how);
        x.set(NEAR, 0);
        x.set(FACE, 2);
        Bench.pressed(x, 3, 2);
        Due.is("how it lies", Bench.lies(x), "1.4.5.0/2.3.6/7");
        return x;
    }

    private static void friendsFace() {
        FoldedBench x = stacked(1);
        Due.is("one above, and a free seat below", x.of(0, 1), 7);
        Due.is("one below, one above", x.of(1, 1), 9);
        Due.is("one below", x.of(2, 1), 7);
    }

    private static void foesFace() {
        FoldedBench x = stacked(-1);
        Due.is("one above, and a free seat below", x.of(0, 1), 3);
        Due.is("one below, one above", x.of(1, 1), 1);
        Due.is("one below", x.of(2, 1), 3);
    }

    private static void besideAndFaces() {
        FoldedBench x = Bench.all(Bench.full(2), 1);
        Bench.pressed(x, 1);
        Due.is("a friend", x.of(0, 1), 9);
        x.set(FACE, 2);
        Due.is("a friend", x.of(1, 1), 8);
        x.relate(0, 1, -1);
        Due.is("a foe", x.of(0, 1), 2);
        Due.is("a foe", x.of(1, 1), 2);
    }

    private static void nothing() {
        FoldedBench x = Bench.all(Bench.full(3), -1);
        x.set(NEAR, 0);
        Due.is("foes beside", x.of(1, 1), 5);
        Bench.pressed(x, 1);
        Due.is("one who faces", x.of(0, 1), 2);
        x.set(FACE, 0);
        Due.is("one who faces", x.of(0, 1), 5);
    }

    private static void zeroAtLeast() {
        FoldedBench x = Bench.all(Bench.full(3), -1);
        x.set(NEAR, 5);
        Due.is("just 0", x.of(0, 1), 0);
        Due.is("5 below 0", x.of(1, 1), 0);
        x.set(NEAR, 0);
        Bench.pressed(x, 1, 1);
        x.set(FACE, 4);
        Due.is("just 1", x.of(0, 1), 1);
        x.set(FACE, 5);
        Due.is("just 0", x.of(0, 1), 0);
        x.set(FACE, 9);
        Due.is("4 below 0", x.of(2, 1), 0);
        Due.is("13 below 0", x.of(1, 1), 0);
        x.set(NEAR, 5);
        Due.is("23 below 0", x.of(1, 1), 0);
    }

    private static void nineAtMost() {
        FoldedBench x = Bench.all(Bench.full(3), 1);
        x.set(NEAR, 4);
        Due.is("just 9", x.of(0, 1), 9);
        Due.is("13 would be more", x.of(1, 1), 9);
        x.set(NEAR, 5);
        Due.is("10 would be more", x.of(0, 1), 9);
        x.set(NEAR, 0);
        Bench.pressed(x, 1, 1);
        Due.is("just 8", x.of(0, 1), 8);
        x.set(FACE, 4);
        Due.is("just 9", x.of(0, 1), 9);
        x.set(FACE, 9);
        Due.is("14 would be more", x.of(0, 1), 9);
        Due.is("23 would be more", x.of(1, 1), 9);
    }

    /** Two foes beside alone would be 5 below 0, a friend who faces alone 14. */
    private static void wholeSum() {
        FoldedBench x = Bench.seated(1, 0, 2, 4);
        x.set(NEAR, 5);
        x.set(FACE, 9);
        x.relate(0, 1, -1);
        x.relate(0, 2, -1);
        x.relate(0, 3, 1);
        Due.is("two foes beside", x.of(0, 1), 0);
        Bench.pressed(x, 3);
        Due.is("and a friend who faces", x.of(0, 1), 4);
        x.relate(0, 1, 1);
        x.relate(0, 2, 1);
        x.relate(0, 3, -1);
        Due.is("two friends beside, and a foe who faces", x.of(0, 1), 6);
    }

    private static void standing() {
        FoldedBench x = Bench.full(3);
        x.stand(1);
        Bench.all(x, 1);
        Due.is("none", x.of(1, 1), FoldedBench.NONE);
        Due.is("who stands gives nobody anything", x.of(0, 1), 5);
        Due.is("the toast of the others", x.count(6), 10);
        Bench.pressed(x, 1, 1);
        Due.is("none", x.of(1, 1), FoldedBench.NONE);
        Due.is("the toast of the others", x.count(6), 10);
    }

    private static void toasts() {
        FoldedBench x = Bench.seated(-1, -1);
        Due.is("nobody sits", x.count(6), 0);
        x = Bench.full(12);
        Due.is("all sit", x.count(6), 60);
        Bench.all(x, 1);
        x.set(NEAR, 4);
        Due.is("all are as glad as can be", x.count(6), 108);
        Bench.all(x, -1);
        x.set(NEAR, 5);
        Due.is("all are as sad as can be", x.count(6), 0);
        x.stand(1);
        Due.is("but the first", x.count(6), 5);
    }
}
