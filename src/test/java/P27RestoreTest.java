/** Promise 27: restore. */
public final class P27RestoreTest {
    public static void main(String[] args) {
        errors();
        everything();
        fiveFolds();
        keepsThePadAndTheHistory();
        Due.end();
    }

    private static void errors() {
        FoldedBench x = Bench.seated(2);
        int[] none = {-1, 2, Integer.MIN_VALUE, Integer.MAX_VALUE};
        for (int slot : none) {
            Due.is("restore(" + slot + ")", x.restore(slot), FoldedBench.BAD_VALUE);
        }
        Due.is("restore(0)", x.restore(0), FoldedBench.NOT_POSSIBLE);
        x.save(0);
        Due.is("restore(1)", x.restore(1), FoldedBench.NOT_POSSIBLE);
        Due.is("changes", x.count(12), 2);
        Due.is("the seat", x.of(0, 0), 2);
    }

    private static void everything() {
        FoldedBench x = Bench.seated(1, 6, 5);
        x.relate(0, 1, -1);
        x.relate(0, 2, 1);
        x.set(FoldedBench.NEAR, 4);
        x.set(FoldedBench.FACE, 8);
        x.fold(3);
        x.fold(2);
        String saved = Bench.seen(x);
        x.save(0);
        x.undo();
        x.undo();
        x.stand(0);
        x.stand(1);
        x.stand(2);
        x.cousin();
        x.relate(0, 1, 0);
        x.relate(1, 2, -1);
        x.set(FoldedBench.SEATS, 3);
        x.fold(1);
        Due.is("restore(0)", x.restore(0), 3);
        Due.is("all is back", Bench.seen(x), saved);
        Due.is("unfold()", x.unfold(), 2);
        Due.is("how it lies", Bench.lies(x), "2.3/1.4/0.5/6/7");
        Due.is("unfold()", x.unfold(), 3);
        Due.is("how it lies", Bench.lies(x), "0/1/2/3/4/5/6/7");
        x.wipe();
        Due.is("the slot keeps it", x.restore(0), 3);
        Due.is("all is back", Bench.seen(x), saved);
    }

    private static void fiveFolds() {
        FoldedBench x = Bench.ofSeats(16);
        for (int gap : new int[] {9, 4, 3, 1, 1}) {
            x.fold(gap);
        }
        String lies = Bench.lies(x);
        x.save(1);
        for (int i = 0; i < 5; i++) {
            x.unfold();
        }
        x.fold(3);
        x.fold(5);
        Due.is("restore(1)", x.restore(1), 0);
        Due.is("how it lies", Bench.lies(x), lies);
        Due.is("folds", x.count(3), 5);
        Due.is("columns", x.count(2), 1);
    }

    private static void keepsThePadAndTheHistory() {
        FoldedBench x = Bench.seated(0);
        x.save(0);
        x.fold(4);
        Bench.put(x, "pad");
        Due.is("restore(0)", x.restore(0), 1);
        Due.is("a change", x.count(12), 4);
        Due.is("the pad", Bench.pad(x), "pad");
        Due.is("columns", x.count(2), 8);
        Due.is("undo()", x.undo(), 3);
        Due.is("columns", x.count(2), 4);
        Due.is("undo()", x.undo(), 2);
        Due.is("columns", x.count(2), 8);
        Due.is("restore(0)", x.restore(0), 1);
        Due.is("a change, if nothing is different", x.count(12), 3);
    }
}
