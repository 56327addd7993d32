/** Promise 26: save. */
public final class P26SaveTest {
    public static void main(String[] args) {
        Due.about("Promise 26, save");
        Due.test("Saves everything", P26SaveTest::everything);
        Due.test("except the pad", P26SaveTest::notThePad);
        Due.test("except the history", P26SaveTest::notTheHistory);
        Due.test("except the slots", P26SaveTest::notTheSlots);
        Due.test("overwrites what was saved there, and nothing else", P26SaveTest::overwrites);
        Due.test("what changes later is not saved", P26SaveTest::aCopy);
        Due.test("saving is not a change", P26SaveTest::noChange);
        Due.test("Returns how many cousins there are: 0 to 12", P26SaveTest::howMany);
        Due.test("slot: 0 or 1; BAD_VALUE if there is no such slot", P26SaveTest::noSuchSlot);
        Due.end();
    }

    private static FoldedBench rich() {
        FoldedBench x = Bench.settle(Bench.ofSeats(11), 0, 10, -1);
        x.relate(0, 1, 1);
        x.relate(1, 2, -1);
        x.set(FoldedBench.FACE, 7);
        x.set(FoldedBench.NEAR, 0);
        return Bench.pressed(x, 6, 2);
    }

    private static void everything() {
        FoldedBench x = rich();
        String before = Bench.state(x);
        x.save(1);
        for (int i = 5; i >= 0; i--) {
            Due.is("undo()", x.undo(), i);
        }
        x.unfold();
        x.unfold();
        x.stand(0);
        x.stand(1);
        x.relate(0, 1, -1);
        x.set(FoldedBench.SEATS, 2);
        x.set(FoldedBench.NEAR, 5);
        Due.is("restore(1)", x.restore(1), 3);
        Due.is("as it was", Bench.state(x), before);
        Due.is("unfold()", x.unfold(), 2);
        Due.is("unfold()", x.unfold(), 6);
    }

    private static void notThePad() {
        FoldedBench x = new FoldedBench();
        Bench.put(x, "before");
        x.save(0);
        Due.is("the pad stays", Bench.pad(x), "before");
        x.wipe();
        Bench.put(x, "after");
        x.restore(0);
        Due.is("the pad", Bench.pad(x), "after");
    }

    private static void notTheHistory() {
        FoldedBench x = Bench.seated(-1, -1);
        x.save(0);
        Due.is("the history stays", x.count(12), 2);
        x.undo();
        x.undo();
        x.restore(0);
        Due.is("changes", x.count(12), 1);
        x.undo();
        Due.is("before restore(0)", x.count(0), 0);
    }

    private static void notTheSlots() {
        FoldedBench x = Bench.seated(-1);
        x.save(0);
        x.cousin();
        x.save(1);
        x.cousin();
        x.save(1);
        Due.is("restore(0)", x.restore(0), 1);
        Due.is("what slot 1 held later stays", x.restore(1), 3);
    }

    private static void overwrites() {
        FoldedBench x = new FoldedBench();
        for (int i = 0; i < 5; i++) {
            Due.is("save(0)", x.save(0), i);
            x.cousin();
        }
        x.save(1);
        Due.is("the latest one", x.restore(0), 4);
        Due.is("the other slot", x.restore(1), 5);
        Due.is("the latest one again", x.restore(0), 4);
        Due.is("with what was restored", x.save(1), 4);
        Due.is("the other slot", x.restore(1), 4);
        x = Bench.pressed(new FoldedBench(), 4, 2);
        x.save(0);
        x.unfold();
        x.unfold();
        x.save(0);
        x.fold(1);
        x.restore(0);
        Due.is("an unfolded bench over a folded one", Bench.lies(x), "0/1/2/3/4/5/6/7");
        Due.is("unfold()", x.unfold(), FoldedBench.NOT_POSSIBLE);
    }

    private static void aCopy() {
        FoldedBench x = Bench.seated(3, 5);
        x.save(0);
        x.sit(0, 0);
        x.relate(0, 1, 1);
        x.cousin();
        x.fold(2);
        x.restore(0);
        Due.is("the seat", x.of(0, 0), 3);
        Due.is("friends", x.of(0, 2), 0);
        Due.is("cousins", x.count(0), 2);
        Due.is("folds", x.count(3), 0);
    }

    private static void noChange() {
        FoldedBench x = Bench.livedAndFolded();
        String before = Bench.seen(x) + Bench.pad(x);
        x.save(0);
        x.save(1);
        Due.is("nothing changes", Bench.seen(x) + Bench.pad(x), before);
        Due.is("undo()", x.undo(), 5);
        Due.is("the fold is undone", x.count(3), 0);
    }

    private static void howMany() {
        FoldedBench x = new FoldedBench();
        for (int i = 0; i <= 12; i++) {
            Due.is("save(0)", x.save(0), i);
            Due.is("save(1)", x.save(1), i);
            x.cousin();
        }
    }

    private static void noSuchSlot() {
        for (int slot : Bench.outside(0, 1)) {
            Bench.refuses("save(" + slot + ")", FoldedBench.BAD_VALUE, Bench::livedAndFolded, x -> x.save(slot));
        }
        FoldedBench x = Bench.seated(-1);
        x.save(-1);
        x.save(2);
        Due.is("restore(0)", x.restore(0), FoldedBench.NOT_POSSIBLE);
        Due.is("restore(1)", x.restore(1), FoldedBench.NOT_POSSIBLE);
        Due.is("save(0)", x.save(0), 1);
        Due.is("save(1)", x.save(1), 1);
    }
}
