/** Promise 27: restore. */
public final class P27RestoreTest {
    private static final int BAD_VALUE = FoldedBench.BAD_VALUE;
    private static final int NOT_POSSIBLE = FoldedBench.NOT_POSSIBLE;

    public static void main(String[] args) {
        Due.about("Promise 27, restore");
        Due.test("Restores what was saved last in a slot", P27RestoreTest::everything);
        Due.test("with all of its folds", P27RestoreTest::fiveFolds);
        Due.test("a bench of 2 seats over one of 16, and one of 16 over one of 2", P27RestoreTest::otherSizes);
        Due.test("which keeps it", P27RestoreTest::keepsIt);
        Due.test("not the pad, nor the history, nor the slots", P27RestoreTest::notTheRest);
        Due.test("This is a change: also if nothing is different then", P27RestoreTest::isAChange);
        Due.test("Returns how many cousins there are then: 0 to 12", P27RestoreTest::howMany);
        Due.test("slot: 0 or 1; BAD_VALUE if there is no such slot", P27RestoreTest::noSuchSlot);
        Due.test("NOT_POSSIBLE if nothing was saved in it", P27RestoreTest::nothingSaved);
        Due.test("which comes first: BAD_VALUE, NOT_POSSIBLE", P27RestoreTest::firstError);
        Due.end();
    }

    private static void everything() {
        FoldedBench x = Bench.seated(1, 6, 5);
        x.relate(0, 1, -1);
        x.relate(0, 2, 1);
        x.set(FoldedBench.NEAR, 4);
        x.set(FoldedBench.FACE, 8);
        x.fold(3);
        x.fold(2);
        String saved = Bench.state(x);
        x.save(0);
        x.undo();
        x.undo();
        x.stand(0);
        x.stand(1);
        x.stand(2);
        x.cousin();
        x.relate(0, 1, 0);
        x.relate(1, 2, -1);
        x.set(FoldedBench.SEATS, 3);
        x.fold(1);
        Due.is("restore(0)", x.restore(0), 3);
        Due.is("all is back", Bench.state(x), saved);
        Due.is("unfold()", x.unfold(), 2);
        Due.is("how it lies", Bench.lies(x), "2.3/1.4/0.5/6/7");
        Due.is("unfold()", x.unfold(), 3);
        Due.is("how it lies", Bench.lies(x), "0/1/2/3/4/5/6/7");
    }

    private static void fiveFolds() {
        FoldedBench x = Bench.pressed(Bench.ofSeats(16), 9, 4, 3, 1, 1);
        String lies = Bench.lies(x);
        x.save(1);
        for (int i = 0; i < 5; i++) {
            x.unfold();
        }
        x.fold(3);
        x.fold(5);
        Due.is("restore(1)", x.restore(1), 0);
        Due.is("how it lies", Bench.lies(x), lies);
        Due.is("folds", x.count(3), 5);
        Due.is("columns", x.count(2), 1);
        for (int gap : new int[] {1, 1, 3, 4, 9}) {
            Due.is("unfold()", x.unfold(), gap);
        }
    }

    private static void otherSizes() {
        FoldedBench x = Bench.ofSeats(2);
        x.save(0);
        x.set(FoldedBench.SEATS, 16);
        x.save(1);
        Bench.pressed(x, 8, 4);
        x.restore(0);
        Due.is("two seats", Bench.lies(x), "0/1");
        Due.is("the third one", x.ofSeat(2, 0), FoldedBench.NO_SUCH);
        x.restore(1);
        Due.is("sixteen seats", Bench.lies(x), "0/1/2/3/4/5/6/7/8/9/10/11/12/13/14/15");
        Due.is("the last one", x.ofSeat(15, 1), 15);
    }

    private static void keepsIt() {
        FoldedBench x = Bench.seated(2);
        x.save(0);
        for (int i = 0; i < 3; i++) {
            x.cousin();
            x.sit(0, 7);
            x.fold(1);
            Due.is("restore(0)", x.restore(0), 1);
            Due.is("the seat", x.of(0, 0), 2);
            Due.is("folds", x.count(3), 0);
        }
    }

    private static void notTheRest() {
        FoldedBench x = Bench.seated(0);
        x.save(0);
        x.cousin();
        x.save(1);
        x.fold(4);
        Bench.put(x, "pad");
        Due.is("restore(0)", x.restore(0), 1);
        Due.is("the pad", Bench.pad(x), "pad");
        Due.is("changes", x.count(12), 5);
        Due.is("the other slot", x.restore(1), 2);
        Due.is("undo()", x.undo(), 5);
        Due.is("undo()", x.undo(), 4);
        Due.is("columns", x.count(2), 4);
        Due.is("undo()", x.undo(), 3);
        Due.is("columns", x.count(2), 8);
    }

    private static void isAChange() {
        FoldedBench x = Bench.seated(0);
        x.save(0);
        x.restore(0);
        Due.is("nothing is different", x.count(12), 3);
        x.fold(4);
        x.restore(0);
        Due.is("a change", x.count(12), 5);
        Due.is("undo()", x.undo(), 4);
        Due.is("columns", x.count(2), 4);
    }

    private static void howMany() {
        for (int cousins = 0; cousins <= 12; cousins++) {
            FoldedBench x = new FoldedBench();
            for (int i = 0; i < cousins; i++) {
                x.cousin();
            }
            x.save(1);
            if (cousins < 12) {
                x.cousin();
            } else {
                x.undo();
            }
            Due.is("restore(1)", x.restore(1), cousins);
            Due.is("cousins", x.count(0), cousins);
        }
    }

    private static void noSuchSlot() {
        for (int slot : Bench.outside(0, 1)) {
            Bench.refuses("restore(" + slot + ")", BAD_VALUE, Bench::livedAndFolded, x -> x.restore(slot));
        }
        FoldedBench x = new FoldedBench();
        x.save(0);
        x.save(1);
        Due.is("the least", x.restore(0), 0);
        Due.is("the greatest", x.restore(1), 0);
    }

    private static FoldedBench oneSaved(int slot) {
        FoldedBench x = Bench.pressed(Bench.seated(2), 3);
        x.save(slot);
        return x;
    }

    private static void nothingSaved() {
        Bench.refuses("restore(0)", NOT_POSSIBLE, () -> oneSaved(1), x -> x.restore(0));
        Bench.refuses("restore(1)", NOT_POSSIBLE, () -> oneSaved(0), x -> x.restore(1));
        Due.is("the other one", oneSaved(0).restore(0), 1);
        Due.is("the other one", oneSaved(1).restore(1), 1);
        FoldedBench x = new FoldedBench();
        Due.is("restore(0)", x.restore(0), NOT_POSSIBLE);
        x.save(0);
        Due.is("a bench without cousins is something, too", x.restore(0), 0);
    }

    private static void firstError() {
        FoldedBench x = new FoldedBench();
        Due.is("nothing was saved, and no such slot", x.restore(2), BAD_VALUE);
        Due.is("nothing was saved, and no such slot", x.restore(-1), BAD_VALUE);
    }
}
