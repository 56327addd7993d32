/** Terms, CONVENTIONS. Which error comes first, and that an error changes nothing, is tested with each promise. */
public final class TermsConventionsTest {
    public static void main(String[] args) {
        Due.about("Terms, conventions");
        Due.test("one of the error codes NO_SUCH (-1) .. NOT_POSSIBLE (-5); NONE (-6)", TermsConventionsTest::codes);
        Due.test("NONE (-6) is not an error: a change that returns it is made, and recorded",
            TermsConventionsTest::noneIsAChange);
        Due.test("NONE (-6) is not an error: orders go on behind it", TermsConventionsTest::noneEndsNoOrders);
        Due.test("NONE is returned only if no error applies", TermsConventionsTest::noneOnlyWithoutError);
        Due.test("Everything is numbered from 0", TermsConventionsTest::numberedFromZero);
        Due.test("Sets of cousins and seats are bit masks", TermsConventionsTest::setsAreMasks);
        Due.test("An object is used for at most 512 calls: the last one is as good as the first",
            TermsConventionsTest::lastCall);
        Due.end();
    }

    private static void codes() {
        Due.is("NO_SUCH", FoldedBench.NO_SUCH, -1);
        Due.is("BAD_VALUE", FoldedBench.BAD_VALUE, -2);
        Due.is("BAD_TEXT", FoldedBench.BAD_TEXT, -3);
        Due.is("TOO_MANY", FoldedBench.TOO_MANY, -4);
        Due.is("NOT_POSSIBLE", FoldedBench.NOT_POSSIBLE, -5);
        Due.is("NONE", FoldedBench.NONE, -6);
        Due.is("SEATS", FoldedBench.SEATS, 0);
        Due.is("NEAR", FoldedBench.NEAR, 1);
        Due.is("FACE", FoldedBench.FACE, 2);
    }

    private static void noneIsAChange() {
        FoldedBench x = Bench.seated(-1);
        Due.is("sit(0, 2)", x.sit(0, 2), -6);
        Due.is("the seat", x.of(0, 0), 2);
        Due.is("changes", x.count(12), 2);
        Due.is("undo()", x.undo(), 1);
        Due.is("stands again", x.of(0, 0), -6);
    }

    private static void noneEndsNoOrders() {
        FoldedBench x = new FoldedBench();
        Due.is("carryOut()", Bench.carryOut(x, "c;c;s0@1;s1@2;f1"), 5);
        Due.is("who sit", x.count(1), 3);
        Due.is("folds", x.count(3), 1);
    }

    private static void noneOnlyWithoutError() {
        FoldedBench x = Bench.seated(-1);
        Due.is("of(0, 0)", x.of(0, 0), -6);
        Due.is("of(0, 1)", x.of(0, 1), -6);
        Due.is("of(0, 6)", x.of(0, 6), -2);
        Due.is("of(1, 0)", x.of(1, 0), -1);
        Due.is("ofSeat(0, 0)", x.ofSeat(0, 0), -6);
        Due.is("ofSeat(0, 3)", x.ofSeat(0, 3), -6);
        Due.is("ofSeat(0, 5)", x.ofSeat(0, 5), -2);
        Due.is("ofSeat(8, 0)", x.ofSeat(8, 0), -1);
    }

    private static void numberedFromZero() {
        FoldedBench x = Bench.seated(0);
        Due.is("of(0, 0)", x.of(0, 0), 0);
        Due.is("of(1, 0)", x.of(1, 0), -1);
        Due.is("ofSeat(0, 0)", x.ofSeat(0, 0), 0);
        Due.is("ofSeat(0, 1)", x.ofSeat(0, 1), 0);
        Due.is("ofSeat(0, 2)", x.ofSeat(0, 2), 0);
        Due.is("column(0, 0)", x.column(0, 0), 0);
        Due.is("column(7, 0)", x.column(7, 0), 7);
        x.put('c');
        Due.is("sign(0)", x.sign(0), 'c');
        Due.is("sign(1)", x.sign(1), -1);
        Due.is("save(0)", x.save(0), 1);
    }

    private static void setsAreMasks() {
        FoldedBench x = Bench.full(12);
        for (int i = 1; i < 12; i++) {
            x.relate(0, i, i % 2 == 0 ? 1 : -1);
        }
        Due.is("who sit", x.count(1), 0xFFF);
        Due.is("friends", x.of(0, 2), 0x554);
        Due.is("foes", x.of(0, 3), 0xAAA);
        Due.is("foes of the last", x.of(11, 3), 1);
        Due.is("beside", x.of(10, 4), 1 << 9 | 1 << 11);
        x.press(1);
        Due.is("who face", x.of(1, 5), 1);
        x.unfold();
        x.press(6);
        Due.is("who face", x.of(0, 5), 1 << 11);
    }

    private static void lastCall() {
        FoldedBench x = new FoldedBench();
        for (int i = 0; i < 500; i++) {
            Due.is("fold(4) or unfold()", i % 2 == 0 ? x.fold(4) : x.unfold(), 4);
        }
        for (int i = 0; i < 11; i++) {
            Due.is("cousin()", x.cousin(), i);
        }
        Due.is("the 512th call", x.cousin(), 11);
    }
}
