/** Promise 16: count. */
public final class P16CountTest {
    public static void main(String[] args) {
        Due.about("Promise 16, count");
        Due.test("0 cousins: 0 to 12", P16CountTest::cousins);
        Due.test("1 those who sit, as a set: nobody, some, all", P16CountTest::whoSit);
        Due.test("2 columns: 1 to 16", P16CountTest::columns);
        Due.test("3 folds: 0 to 5", P16CountTest::folds);
        Due.test("4 pairs of foes who face: 0 to 11", () -> pairs(4, -1, 5));
        Due.test("5 pairs of friends who face: 0 to 11", () -> pairs(5, 1, 4));
        Due.test("6 the toast: 0 to 108", P16CountTest::toast);
        Due.test("7 the highest stack: 1 to 16", P16CountTest::highest);
        Due.test("7 the highest stack: the first, the last, or one between", P16CountTest::whichIsHighest);
        Due.test("8 to 10 the settings", P16CountTest::settings);
        Due.test("11 the length of the pad: 0 to 80", P16CountTest::padLength);
        Due.test("12 how many changes can be undone: 0 to 6", P16CountTest::changes);
        Due.test("each of them while much is going on", P16CountTest::together);
        Due.test("BAD_VALUE if what is out of range", P16CountTest::whatOutOfRange);
        Due.end();
    }

    private static void cousins() {
        FoldedBench x = new FoldedBench();
        for (int i = 0; i <= 12; i++) {
            Due.is("cousins", x.count(0), i);
            x.cousin();
        }
        Due.is("cousins", x.count(0), 12);
    }

    private static void whoSit() {
        Due.is("nobody is there", new FoldedBench().count(1), 0);
        Due.is("all stand", Bench.seated(-1, -1).count(1), 0);
        Due.is("some", Bench.seated(-1, 7, -1, 0).count(1), 1 << 1 | 1 << 3);
        Due.is("the first alone", Bench.seated(7, -1).count(1), 1);
        Due.is("all", Bench.full(12).count(1), 0xFFF);
    }

    private static void columns() {
        Due.is("the most", Bench.ofSeats(16).count(2), 16);
        Due.is("of two seats", Bench.ofSeats(2).count(2), 2);
        Due.is("the fewest", Bench.pressed(Bench.ofSeats(2), 1).count(2), 1);
        Due.is("the fewest", Bench.pressed(Bench.ofSeats(16), 8, 4, 2, 1).count(2), 1);
    }

    private static void folds() {
        FoldedBench x = Bench.ofSeats(16);
        for (int folds = 0; folds <= 5; folds++) {
            Due.is("folds", x.count(3), folds);
            x.fold(1);
        }
        Due.is("folds", x.count(3), 5);
        x.unfold();
        Due.is("folds", x.count(3), 4);
    }

    private static void pairs(int what, int how, int otherWhat) {
        FoldedBench x = Bench.all(Bench.full(12), how);
        Due.is("none, unfolded", x.count(what), 0);
        int[] gaps = {6, 3, 1, 1};
        int[] due = {6, 9, 10, 11};
        for (int i = 0; i < 4; i++) {
            x.press(gaps[i]);
            Due.is("pairs", x.count(what), due[i]);
            Due.is("pairs of the others", x.count(otherWhat), 0);
        }
        x.relate(3, 8, 0);
        Due.is("without the lowest ones", x.count(what), 10);
        x.relate(0, 11, -how);
        Due.is("without the topmost ones", x.count(what), 9);
        Due.is("pairs of the others", x.count(otherWhat), 1);
    }

    private static void toast() {
        Due.is("nobody is there", new FoldedBench().count(6), 0);
        Due.is("all stand", Bench.seated(-1, -1).count(6), 0);
        Due.is("one sits", Bench.seated(-1, 0).count(6), 5);
        FoldedBench x = Bench.all(Bench.full(12), 1);
        x.set(FoldedBench.NEAR, 5);
        Due.is("the greatest", x.count(6), 108);
        Bench.all(x, -1);
        Due.is("the least", x.count(6), 0);
    }

    private static void highest() {
        Due.is("unfolded", Bench.ofSeats(16).count(7), 1);
        FoldedBench x = Bench.ofSeats(16);
        int[] gaps = {8, 4, 2, 1};
        for (int i = 0; i < 4; i++) {
            x.press(gaps[i]);
            Due.is("by halves", x.count(7), 2 << i);
        }
        x.unfold();
        Due.is("unfolded by one", x.count(7), 8);
    }

    private static void whichIsHighest() {
        FoldedBench x = Bench.pressed(Bench.ofSeats(7), 2, 4);
        Due.is("how it lies", Bench.lies(x), "5.6/4/0.3/1.2");
        Due.is("highest", x.count(7), 2);
        x.press(3);
        Due.is("how it lies", Bench.lies(x), "0.3.2.1/4/5.6");
        Due.is("the first", x.count(7), 4);
        x.press(2);
        Due.is("how it lies", Bench.lies(x), "4.6.5/0.3.2.1");
        Due.is("the last", x.count(7), 4);
        x = Bench.pressed(new FoldedBench(), 2, 5);
        Due.is("how it lies", Bench.lies(x), "6.7/5/4/0.3/1.2");
        x.press(2);
        Due.is("how it lies", Bench.lies(x), "5.4/6.7.3.0/2.1");
        Due.is("one between", x.count(7), 4);
    }

    private static void settings() {
        FoldedBench x = new FoldedBench();
        x.set(FoldedBench.SEATS, 11);
        x.set(FoldedBench.NEAR, 4);
        x.set(FoldedBench.FACE, 7);
        Due.is("SEATS", x.count(8), 11);
        Due.is("NEAR", x.count(9), 4);
        Due.is("FACE", x.count(10), 7);
    }

    private static void padLength() {
        FoldedBench x = new FoldedBench();
        for (int length = 0; length <= 80; length++) {
            Due.is("the length", x.count(11), length);
            x.put('c');
        }
        Due.is("the length", x.count(11), 80);
        x.wipe();
        Due.is("wiped", x.count(11), 0);
    }

    private static void changes() {
        FoldedBench x = new FoldedBench();
        for (int i = 0; i <= 8; i++) {
            Due.is("changes", x.count(12), Math.min(6, i));
            x.cousin();
        }
        for (int i = 5; i >= 0; i--) {
            x.undo();
            Due.is("changes", x.count(12), i);
        }
    }

    private static void together() {
        FoldedBench x = Bench.seated(0, 7, 3, 4, -1, 2);
        is(x, 6, 47, 8, 0, 0, 0, 25, 1, 8, 1, 3, 0, 6);
        x.relate(0, 1, 1);
        x.relate(2, 3, -1);
        is(x, 6, 47, 8, 0, 0, 0, 23, 1, 8, 1, 3, 0, 6);
        x.press(4);
        is(x, 6, 47, 4, 1, 1, 1, 23, 2, 8, 1, 3, 0, 6);
        x.relate(2, 3, 1);
        is(x, 6, 47, 4, 1, 0, 2, 39, 2, 8, 1, 3, 0, 6);
        x.set(FoldedBench.NEAR, 4);
        x.set(FoldedBench.FACE, 0);
        Bench.put(x, "abc");
        is(x, 6, 47, 4, 1, 0, 2, 33, 2, 8, 4, 0, 3, 6);
        x.undo();
        x.undo();
        is(x, 6, 47, 4, 1, 0, 2, 39, 2, 8, 1, 3, 3, 4);
    }

    private static void is(FoldedBench x, int... due) {
        for (int what = 0; what < 13; what++) {
            Due.is("count(" + what + ")", x.count(what), due[what]);
        }
    }

    private static void whatOutOfRange() {
        FoldedBench x = Bench.lived();
        for (int what : Bench.outside(0, 12)) {
            Due.is("count(" + what + ")", x.count(what), FoldedBench.BAD_VALUE);
        }
        Bench.refuses("count(13)", FoldedBench.BAD_VALUE, Bench::lived, y -> y.count(13));
        Due.is("the least", x.count(0), 3);
        Due.is("the greatest", x.count(12), 6);
    }
}
