/** Promise 12: of. Moods are tested by TermsMoodsTest, too. */
public final class P12OfTest {
    private static final int NO_SUCH = FoldedBench.NO_SUCH;
    private static final int BAD_VALUE = FoldedBench.BAD_VALUE;
    private static final int NONE = FoldedBench.NONE;

    public static void main(String[] args) {
        Due.about("Promise 12, of");
        Due.test("0 the seat: the first, the last", P12OfTest::seat);
        Due.test("0 the seat (NONE)", P12OfTest::noSeat);
        Due.test("1 the mood: 0 to 9", P12OfTest::mood);
        Due.test("1 the mood (NONE)", P12OfTest::noMood);
        Due.test("2 friends: none, some, all", P12OfTest::friends);
        Due.test("3 foes: none, some, all", P12OfTest::foes);
        Due.test("4 those beside along the bench: nobody, one, two", P12OfTest::beside);
        Due.test("4 those beside along the bench: also while it is folded", P12OfTest::besideWhileFolded);
        Due.test("5 those who face: nobody, one, two", P12OfTest::facing);
        Due.test("those beside and those who face one who stands: nobody", P12OfTest::standing);
        Due.test("NO_SUCH if there is no such cousin", P12OfTest::noSuchCousin);
        Due.test("BAD_VALUE if what is out of range", P12OfTest::whatOutOfRange);
        Due.test("which comes first: NO_SUCH, BAD_VALUE", P12OfTest::firstError);
        Due.end();
    }

    private static void seat() {
        FoldedBench x = Bench.settle(Bench.ofSeats(16), 0, 15, 9);
        Due.is("the first", x.of(0, 0), 0);
        Due.is("the last", x.of(1, 0), 15);
        Due.is("one between", x.of(2, 0), 9);
        Bench.foldedTimes(x, 5);
        Due.is("the same while it is folded", x.of(1, 0), 15);
        Due.is("the last cousin", Bench.full(12).of(11, 0), 11);
    }

    private static void noSeat() {
        FoldedBench x = Bench.seated(-1, 0);
        Due.is("one who never sat", x.of(0, 0), NONE);
        x.stand(1);
        Due.is("one who stood up", x.of(1, 0), NONE);
    }

    private static void mood() {
        FoldedBench x = Bench.full(2);
        Due.is("a stranger beside", x.of(0, 1), 5);
        for (int near = 0; near <= 5; near++) {
            x.set(FoldedBench.NEAR, near);
            x.relate(0, 1, 1);
            Due.is("a friend beside, near " + near, x.of(0, 1), Math.min(9, 5 + near));
            x.relate(0, 1, -1);
            Due.is("a foe beside, near " + near, x.of(1, 1), 5 - near);
        }
        x.set(FoldedBench.NEAR, 0);
        x.press(1);
        for (int face = 0; face <= 9; face++) {
            x.set(FoldedBench.FACE, face);
            x.relate(0, 1, 1);
            Due.is("a friend faces, face " + face, x.of(0, 1), Math.min(9, 5 + face));
            x.relate(0, 1, -1);
            Due.is("a foe faces, face " + face, x.of(1, 1), Math.max(0, 5 - face));
        }
    }

    private static void noMood() {
        FoldedBench x = Bench.seated(-1, 0);
        x.relate(0, 1, 1);
        Due.is("one who never sat", x.of(0, 1), NONE);
        Due.is("one who sits", x.of(1, 1), 5);
        x.stand(1);
        Due.is("one who stood up", x.of(1, 1), NONE);
    }

    private static void friends() {
        sets(2, 1, -1);
    }

    private static void foes() {
        sets(3, -1, 1);
    }

    private static void sets(int what, int how, int notHow) {
        FoldedBench x = Bench.seated(0, 1, -1, -1, -1, -1, -1, -1, -1, -1, -1, -1);
        Due.is("none", x.of(0, what), 0);
        x.relate(0, 2, how);
        x.relate(11, 0, how);
        x.relate(0, 1, notHow);
        Due.is("some, who stand", x.of(0, what), 1 << 2 | 1 << 11);
        Bench.all(x, how);
        for (int i = 0; i < 12; i++) {
            Due.is("all but " + i, x.of(i, what), 0xFFF & ~(1 << i));
            Due.is("none", x.of(i, 5 - what), 0);
        }
    }

    private static void beside() {
        FoldedBench x = Bench.seated(0, 1, 2, 6, 7, 4);
        Due.is("beside the first seat", x.of(0, 4), 2);
        Due.is("two", x.of(1, 4), 5);
        Due.is("one on the left", x.of(2, 4), 2);
        Due.is("beside the last seat", x.of(4, 4), 8);
        Due.is("nobody", x.of(5, 4), 0);
        x.set(FoldedBench.SEATS, 9);
        Due.is("a free seat on the right", x.of(4, 4), 8);
    }

    private static void besideWhileFolded() {
        FoldedBench x = Bench.pressed(Bench.seated(0, 1, 2, 6, 7, 4), 4, 2, 1);
        Due.is("how it lies", Bench.lies(x), "2.5.6.1.0.7.4.3");
        Due.is("beside the first seat", x.of(0, 4), 2);
        Due.is("two", x.of(1, 4), 5);
        Due.is("beside the last seat", x.of(4, 4), 8);
        Due.is("nobody", x.of(5, 4), 0);
    }

    private static void facing() {
        FoldedBench x = Bench.seated(0, 1, 2, 6, 7);
        Due.is("nobody, unfolded", x.of(0, 5), 0);
        x.fold(4);
        Due.is("above", x.of(0, 5), 1 << 4);
        Due.is("below", x.of(4, 5), 1);
        Due.is("a free seat above", x.of(2, 5), 0);
        x.fold(2);
        x.fold(1);
        Due.is("how it lies", Bench.lies(x), "2.5.6.1.0.7.4.3");
        Due.is("two", x.of(0, 5), 1 << 1 | 1 << 4);
        Due.is("two", x.of(1, 5), 1 << 3 | 1);
        Due.is("a free seat below, one above", x.of(3, 5), 1 << 1);
        Due.is("the lowest, and a free seat above", x.of(2, 5), 0);
        Due.is("one below, a free seat above", x.of(4, 5), 1);
    }

    private static void standing() {
        FoldedBench x = Bench.seated(-1, 0, 7, 1);
        x.relate(0, 1, 1);
        x.relate(0, 2, -1);
        for (int folds = 0; folds <= 1; folds++) {
            Due.is("beside", x.of(0, 4), 0);
            Due.is("who face", x.of(0, 5), 0);
            Due.is("friends", x.of(0, 2), 2);
            Due.is("foes", x.of(0, 3), 4);
            Due.is("not among those beside another", x.of(1, 4), 8);
            x.fold(1);
        }
        Due.is("not among those who face another", x.of(1, 5), 8);
    }

    private static void noSuchCousin() {
        FoldedBench x = Bench.lived();
        for (int cousin : Bench.outside(0, 2)) {
            for (int what = 0; what <= 5; what++) {
                Due.is("of(" + cousin + ", " + what + ")", x.of(cousin, what), NO_SUCH);
            }
        }
        Bench.refuses("of(3, 0)", NO_SUCH, Bench::lived, y -> y.of(3, 0));
        Due.is("nobody is there", new FoldedBench().of(0, 0), NO_SUCH);
        Due.is("of twelve", Bench.full(12).of(12, 0), NO_SUCH);
    }

    private static void whatOutOfRange() {
        FoldedBench x = Bench.seated(0, -1);
        for (int what : Bench.outside(0, 5)) {
            Due.is("of(0, " + what + ")", x.of(0, what), BAD_VALUE);
            Due.is("of(1, " + what + "), standing", x.of(1, what), BAD_VALUE);
        }
        Due.is("the least", x.of(0, 0), 0);
        Due.is("the greatest", x.of(0, 5), 0);
        Bench.refuses("of(0, 6)", BAD_VALUE, Bench::lived, y -> y.of(0, 6));
    }

    private static void firstError() {
        FoldedBench x = Bench.lived();
        Due.is("of(3, 6)", x.of(3, 6), NO_SUCH);
        Due.is("of(-1, -1)", x.of(-1, -1), NO_SUCH);
    }
}
