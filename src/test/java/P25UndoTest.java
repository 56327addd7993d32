/** Promise 25: undo, and which methods are changes. */
public final class P25UndoTest {
    private static final int NOT_POSSIBLE = FoldedBench.NOT_POSSIBLE;

    public static void main(String[] args) {
        Due.about("Promise 25, undo");
        Due.test("everything is as it was before it: of each change", P25UndoTest::eachChange);
        Due.test("everything is as it was before it: of unfold()", P25UndoTest::unfold);
        Due.test("everything is as it was before it: step by step, with folds of benches of other sizes",
            P25UndoTest::stepByStep);
        Due.test("everything is as it was before it: not as it was tried in between", P25UndoTest::othersFoldsBetween);
        Due.test("except the pad", P25UndoTest::padStays);
        Due.test("except the slots", P25UndoTest::slotsStay);
        Due.test("except the history: undo is no change, and is not undone", P25UndoTest::noChangeItself);
        Due.test("A history of at most 6 states is kept", P25UndoTest::sixStates);
        Due.test("each method that is a change records the state before it", P25UndoTest::eachRecords);
        Due.test("(also if nothing is different then)", P25UndoTest::nothingDifferent);
        Due.test("a method that is no change records nothing", P25UndoTest::noChanges);
        Due.test("and returns no error: an error records nothing", P25UndoTest::errorsRecordNothing);
        Due.test("an error records nothing: when the history is full", P25UndoTest::fullHistoryAndErrors);
        Due.test("when one more is recorded, the oldest one is dropped", P25UndoTest::oldestDropped);
        Due.test("An order of a text records nothing by itself", P25UndoTest::ordersRecordNothing);
        Due.test("Returns how many changes can be undone then: 5 to 0", P25UndoTest::howManyThen);
        Due.test("NOT_POSSIBLE if there is none", P25UndoTest::none);
        Due.end();
    }

    private static FoldedBench prepared() {
        FoldedBench x = Bench.seated(0, 7);
        x.relate(0, 1, -1);
        x.save(0);
        return x;
    }

    private static final int CHANGES = 14;

    private static int change(int which, FoldedBench x) {
        switch (which) {
            case 0: return x.set(FoldedBench.SEATS, 16);
            case 1: return x.set(FoldedBench.NEAR, 4);
            case 2: return x.set(FoldedBench.FACE, 0);
            case 3: return x.cousin();
            case 4: return x.sit(0, 3);
            case 5: return x.stand(1);
            case 6: return x.swap(0, 7);
            case 7: return x.relate(0, 1, 1);
            case 8: return x.relate(0, 1, 0);
            case 9: return x.fold(5);
            case 10: return x.press(4);
            case 11: return Bench.carryOut(x, "c;s2@3;f5;f1");
            case 12: return Bench.carryOut(x, "c;x2~1+;o");
            default: return x.restore(0);
        }
    }

    private static void eachChange() {
        for (int which = 0; which < CHANGES; which++) {
            FoldedBench x = prepared();
            x.set(FoldedBench.NEAR, 2);
            String before = Bench.state(x);
            int answer = change(which, x);
            Due.holds("change " + which + " is made", answer >= 0 || answer == FoldedBench.NONE);
            Due.holds("change " + which + " can be seen", !Bench.state(x).equals(before));
            Due.is("undo() of " + which, x.undo(), 5);
            Due.is("after undo() of " + which, Bench.state(x), before);
        }
    }

    private static void unfold() {
        FoldedBench x = prepared();
        x.fold(5);
        x.fold(1);
        String before = Bench.state(x);
        x.unfold();
        Due.is("undo()", x.undo(), 5);
        Due.is("as before", Bench.state(x), before);
        Due.is("unfold() again", x.unfold(), 1);
        Due.is("unfold() again", x.unfold(), 5);
    }

    private static void stepByStep() {
        FoldedBench x = Bench.ofSeats(9);
        x.fold(4);
        x.fold(2);
        x.unfold();
        x.unfold();
        x.set(FoldedBench.SEATS, 3);
        String[] due = {"0/1/2/3/4/5/6/7/8", "3.4/2.5/1.6/0.7/8", "2.5.6.1/3.4.7.0/8", "3.4/2.5/1.6/0.7/8",
            "0/1/2/3/4/5/6/7/8", "0/1/2/3/4/5/6/7"};
        for (int i = 0; i < due.length; i++) {
            Due.is("undo()", x.undo(), 5 - i);
            Due.is("how it lies", Bench.lies(x), due[i]);
        }
    }

    /** Folds that were made since then, or only tried, are not mixed up with those that come back. */
    private static void othersFoldsBetween() {
        FoldedBench x = new FoldedBench();
        x.fold(4);
        x.fold(2);
        x.unfold();
        x.unfold();
        x.fold(7);
        x.fold(1);
        x.fewestFolds();
        String[] due = {"6.7/5/4/3/2/1/0", "0/1/2/3/4/5/6/7", "3.4/2.5/1.6/0.7", "2.5.6.1/3.4.7.0"};
        for (int i = 0; i < due.length; i++) {
            Due.is("undo()", x.undo(), 5 - i);
            Due.is("how it lies", Bench.lies(x), due[i]);
            x.bestFold();
        }
        Due.is("unfold()", x.unfold(), 2);
        Due.is("how it lies", Bench.lies(x), "3.4/2.5/1.6/0.7");
    }

    private static void padStays() {
        FoldedBench x = new FoldedBench();
        Bench.put(x, "pad");
        x.cousin();
        Bench.put(x, "ded");
        x.undo();
        Due.is("what was put before and after", Bench.pad(x), "padded");
        x.wipe();
        x.cousin();
        Bench.carryOut(x, "c;c");
        Due.is("undo()", x.undo(), 1);
        Due.is("the pad of carryOut() stays empty", x.count(11), 0);
        x.fold(3);
        x.write();
        x.undo();
        Due.is("what was written stays", Bench.pad(x), "2.3/1.4/0.5/6/7");
    }

    private static void slotsStay() {
        FoldedBench x = new FoldedBench();
        x.cousin();
        x.cousin();
        x.save(1);
        x.undo();
        Due.is("restore(1)", x.restore(1), 2);
        x.undo();
        x.undo();
        Due.is("cousins", x.count(0), 0);
        Due.is("restore(1)", x.restore(1), 2);
        Due.is("restore(0)", x.restore(0), NOT_POSSIBLE);
        x.save(0);
        x.undo();
        Due.is("saved in between", x.restore(0), 2);
    }

    private static void noChangeItself() {
        FoldedBench x = Bench.seated(-1, -1, -1);
        for (int i = 2; i >= 0; i--) {
            Due.is("undo()", x.undo(), i);
            Due.is("changes", x.count(12), i);
            Due.is("cousins", x.count(0), i);
        }
    }

    private static void sixStates() {
        FoldedBench x = Bench.seated(-1, -1, -1, -1, -1, -1, -1);
        Due.is("changes", x.count(12), 6);
        for (int i = 5; i >= 0; i--) {
            Due.is("undo()", x.undo(), i);
        }
        Due.is("a 7th", x.undo(), NOT_POSSIBLE);
        Due.is("cousins", x.count(0), 1);
        x = Bench.seated(-1, -1, -1, -1, -1, -1);
        for (int i = 5; i >= 0; i--) {
            Due.is("undo() of six", x.undo(), i);
        }
        Due.is("cousins", x.count(0), 0);
    }

    private static void eachRecords() {
        for (int which = 0; which < CHANGES; which++) {
            FoldedBench x = prepared();
            Due.is("changes before " + which, x.count(12), 5);
            change(which, x);
            Due.is("changes by " + which, x.count(12), 6);
        }
        FoldedBench x = prepared();
        x.fold(5);
        x.undo();
        x.undo();
        x.fold(5);
        x.unfold();
        Due.is("changes by unfold()", x.count(12), 6);
    }

    private static void nothingDifferent() {
        FoldedBench x = Bench.seated(0, -1);
        x.save(0);
        Due.is("changes", x.count(12), 3);
        String before = Bench.state(x);
        x.set(FoldedBench.SEATS, 8);
        x.undo();
        x.set(FoldedBench.NEAR, 1);
        Due.is("set()", x.count(12), 4);
        x.undo();
        x.swap(2, 3);
        Due.is("swap()", x.count(12), 4);
        x.undo();
        x.relate(0, 1, 0);
        Due.is("relate()", x.count(12), 4);
        x.undo();
        Bench.carryOut(x, "o");
        Due.is("carryOut()", x.count(12), 4);
        x.undo();
        x.restore(0);
        Due.is("restore()", x.count(12), 4);
        Due.is("undo()", x.undo(), 3);
        Due.is("as before", Bench.state(x), before);
    }

    private static void noChanges() {
        FoldedBench x = new FoldedBench();
        x.write();
        x.wipe();
        x.put('c');
        x.fault();
        x.save(0);
        x.save(1);
        x.bestFold();
        x.bestSwap(0);
        x.fewestFolds();
        x.ifFolded(1, 0);
        x.column(0, 0);
        x.ofSeat(0, 0);
        x.sign(0);
        Due.is("changes", x.count(12), 0);
        Due.is("undo()", x.undo(), NOT_POSSIBLE);
    }

    private static void errorsRecordNothing() {
        FoldedBench x = Bench.seated(0);
        x.set(9, 0);
        x.set(FoldedBench.SEATS, 17);
        x.sit(0, 0);
        x.sit(5, 0);
        x.stand(5);
        x.swap(0, 0);
        x.relate(0, 0, 1);
        x.fold(0);
        x.press(0);
        x.unfold();
        x.carryOut();
        x.restore(0);
        x.restore(9);
        x.save(9);
        Due.is("changes", x.count(12), 2);
        Due.is("undo()", x.undo(), 1);
        Due.is("stands", x.of(0, 0), FoldedBench.NONE);
    }

    /** A change that fails leaves a full history as it is, however often it is tried. */
    private static void fullHistoryAndErrors() {
        FoldedBench x = new FoldedBench();
        for (int i = 0; i < 10; i++) {
            x.cousin();
            x.unfold();
            x.sit(0, 99);
        }
        for (int i = 5; i >= 0; i--) {
            Due.is("undo()", x.undo(), i);
            Due.is("cousins", x.count(0), i + 4);
            Due.is("an error", x.unfold(), NOT_POSSIBLE);
        }
    }

    private static void oldestDropped() {
        FoldedBench x = new FoldedBench();
        for (int i = 1; i <= 9; i++) {
            x.cousin();
            Due.is("changes", x.count(12), Math.min(6, i));
        }
        for (int i = 5; i >= 0; i--) {
            Due.is("undo()", x.undo(), i);
            Due.is("cousins", x.count(0), i + 3);
        }
        for (int i = 0; i < 7; i++) {
            x.cousin();
        }
        x.undo();
        x.relate(0, 1, 1);
        Due.is("changes", x.count(12), 6);
        x.undo();
        Due.is("friends", x.of(0, 2), 0);
        Due.is("cousins", x.count(0), 9);
    }

    private static void ordersRecordNothing() {
        FoldedBench x = new FoldedBench();
        Bench.carryOut(x, "c;c;c;c;c;c;c;c;s0@0;f1;f1;o;u0");
        Due.is("changes", x.count(12), 1);
        Due.is("undo()", x.undo(), 0);
        Due.is("cousins", x.count(0), 0);
        x = Bench.seated(-1, -1, -1, -1, -1, -1);
        Bench.carryOut(x, "c;c;c;c;c;c");
        Due.is("undo()", x.undo(), 5);
        Due.is("cousins", x.count(0), 6);
        Due.is("undo()", x.undo(), 4);
        Due.is("cousins", x.count(0), 5);
    }

    private static void howManyThen() {
        for (int changes = 1; changes <= 8; changes++) {
            FoldedBench x = new FoldedBench();
            for (int i = 0; i < changes; i++) {
                x.cousin();
            }
            int can = Math.min(6, changes);
            Due.is("undo() of " + changes, x.undo(), can - 1);
            Due.is("changes", x.count(12), can - 1);
        }
    }

    private static void none() {
        Due.is("a new bench", new FoldedBench().undo(), NOT_POSSIBLE);
        FoldedBench x = new FoldedBench();
        x.put('c');
        x.save(1);
        x.fold(3);
        x.undo();
        String before = Bench.seen(x);
        Due.is("all are undone", x.undo(), NOT_POSSIBLE);
        Due.is("nothing changes", Bench.seen(x), before);
        Due.is("a change after it", x.fold(4), 4);
        Due.is("can be undone", x.undo(), 0);
    }
}
