/** Promise 25: undo, and which methods are changes. */
public final class P25UndoTest {
    public static void main(String[] args) {
        eachChange();
        noChanges();
        errorsRecordNothing();
        sixStates();
        padAndSlotsStay();
        fullHistoryAndErrors();
        stepByStep();
        othersFoldsBetween();
        Due.end();
    }

    private static FoldedBench prepared() {
        FoldedBench x = Bench.seated(0, 7);
        x.relate(0, 1, -1);
        x.save(0);
        return x;
    }

    /** Makes a change of a prepared bench, and undoes it. */
    private static int change(int which, FoldedBench x) {
        switch (which) {
            case 0: return x.set(FoldedBench.SEATS, 16);
            case 1: return x.set(FoldedBench.NEAR, 1);
            case 2: return x.cousin();
            case 3: return x.sit(0, 3);
            case 4: return x.stand(1);
            case 5: return x.swap(0, 7);
            case 6: return x.swap(2, 3);
            case 7: return x.relate(0, 1, 1);
            case 8: return x.relate(0, 1, -1);
            case 9: return x.fold(5);
            case 10: return x.press(4);
            case 11: return Bench.carryOut(x, "c;s2@3;f5;f1");
            case 12: return Bench.carryOut(x, "o");
            default: return x.restore(0);
        }
    }

    private static void eachChange() {
        for (int which = 0; which <= 13; which++) {
            FoldedBench x = prepared();
            String before = Bench.seen(x);
            int answer = change(which, x);
            Due.holds("change " + which + " is made", answer >= 0 || answer == FoldedBench.NONE);
            Due.is("changes by " + which, x.count(12), 6);
            Due.is("undo() of " + which, x.undo(), 5);
            Due.is("after undo of " + which, Bench.seen(x), before);
        }
        FoldedBench x = prepared();
        x.fold(5);
        x.fold(1);
        x.undo();
        String before = Bench.seen(x);
        x.unfold();
        Due.is("undo() of unfold()", x.undo(), 5);
        Due.is("after undo of unfold()", Bench.seen(x), before);
        Due.is("unfold() again", x.unfold(), 5);
    }

    private static void noChanges() {
        FoldedBench x = new FoldedBench();
        x.write();
        x.wipe();
        x.put('c');
        x.fault();
        x.save(0);
        x.save(1);
        x.bestFold();
        x.bestSwap(0);
        x.fewestFolds();
        x.ifFolded(1, 0);
        x.column(0, 0);
        Due.is("changes", x.count(12), 0);
        Due.is("undo()", x.undo(), FoldedBench.NOT_POSSIBLE);
    }

    private static void errorsRecordNothing() {
        FoldedBench x = Bench.seated(0);
        x.set(9, 0);
        x.sit(0, 0);
        x.sit(5, 0);
        x.stand(5);
        x.swap(0, 0);
        x.relate(0, 0, 1);
        x.fold(0);
        x.press(0);
        x.unfold();
        x.carryOut();
        x.restore(0);
        x.restore(9);
        x.save(9);
        Due.is("changes", x.count(12), 2);
        Due.is("undo()", x.undo(), 1);
        Due.is("stands", x.of(0, 0), FoldedBench.NONE);
    }

    private static void sixStates() {
        FoldedBench x = new FoldedBench();
        for (int i = 1; i <= 9; i++) {
            x.cousin();
            Due.is("changes", x.count(12), Math.min(6, i));
        }
        for (int i = 5; i >= 0; i--) {
            Due.is("undo()", x.undo(), i);
            Due.is("cousins", x.count(0), i + 3);
        }
        Due.is("undo()", x.undo(), FoldedBench.NOT_POSSIBLE);
        Due.is("cousins", x.count(0), 3);
        for (int i = 0; i < 7; i++) {
            x.cousin();
        }
        x.undo();
        x.relate(0, 1, 1);
        Due.is("changes", x.count(12), 6);
        x.undo();
        Due.is("friends", x.of(0, 2), 0);
        Due.is("cousins", x.count(0), 9);
    }

    /** A change that fails leaves a full history as it is, however often it is tried. */
    private static void fullHistoryAndErrors() {
        FoldedBench x = new FoldedBench();
        for (int i = 0; i < 10; i++) {
            x.cousin();
            x.unfold();
            x.sit(0, 99);
        }
        for (int i = 5; i >= 0; i--) {
            Due.is("undo()", x.undo(), i);
            Due.is("cousins", x.count(0), i + 4);
            Due.is("an error", x.unfold(), FoldedBench.NOT_POSSIBLE);
        }
    }

    private static void padAndSlotsStay() {
        FoldedBench x = new FoldedBench();
        x.cousin();
        x.cousin();
        x.save(1);
        Bench.put(x, "pad");
        x.undo();
        Due.is("the pad", Bench.pad(x), "pad");
        Due.is("restore(1)", x.restore(1), 2);
        Due.is("changes", x.count(12), 2);
        Due.is("undo()", x.undo(), 1);
        Due.is("cousins", x.count(0), 1);
        Due.is("restore(1)", x.restore(1), 2);
        Due.is("restore(0)", x.restore(0), FoldedBench.NOT_POSSIBLE);
        x.wipe();
        Bench.carryOut(x, "c;c");
        x.undo();
        Due.is("the pad stays empty", x.count(11), 0);
    }

    /** Folds that were made since then, or only tried, are not mixed up with those that come back. */
    private static void othersFoldsBetween() {
        FoldedBench x = new FoldedBench();
        x.fold(4);
        x.fold(2);
        x.unfold();
        x.unfold();
        x.fold(7);
        x.fold(1);
        x.fewestFolds();
        String[] due = {"6.7/5/4/3/2/1/0", "0/1/2/3/4/5/6/7", "3.4/2.5/1.6/0.7", "2.5.6.1/3.4.7.0"};
        for (int i = 0; i < due.length; i++) {
            Due.is("undo()", x.undo(), 5 - i);
            Due.is("how it lies", Bench.lies(x), due[i]);
            x.bestFold();
        }
        Due.is("unfold()", x.unfold(), 2);
        Due.is("how it lies", Bench.lies(x), "3.4/2.5/1.6/0.7");
    }

    private static void stepByStep() {
        FoldedBench x = Bench.ofSeats(9);
        x.fold(4);
        x.fold(2);
        x.unfold();
        x.unfold();
        x.set(FoldedBench.SEATS, 3);
        String[] due = {"0/1/2/3/4/5/6/7/8", "3.4/2.5/1.6/0.7/8", "2.5.6.1/3.4.7.0/8", "3.4/2.5/1.6/0.7/8",
            "0/1/2/3/4/5/6/7/8", "0/1/2/3/4/5/6/7"};
        for (int i = 0; i < due.length; i++) {
            Due.is("undo()", x.undo(), 5 - i);
            Due.is("how it lies", Bench.lies(x), due[i]);
        }
    }
}
