/** Promise 24: carryOut. */
public final class P24CarryOutTest {
    public static void main(String[] args) {
        eachOrder();
        upToAnError();
        aFaultStays();
        oneChange();
        greaterNumbers();
        fullPad();
        Due.end();
    }

    private static void is(FoldedBench x, String text, int due) {
        Due.is("carryOut() of \"" + text + "\"", Bench.carryOut(x, text), due);
        Due.is("the length", x.count(11), due == FoldedBench.BAD_TEXT ? text.length() : 0);
    }

    private static void eachOrder() {
        FoldedBench x = new FoldedBench();
        is(x, "c", 1);
        Due.is("cousins", x.count(0), 1);
        is(x, "c;c", 2);
        Due.is("cousins", x.count(0), 3);
        is(x, "s2@7", 1);
        Due.is("the seat", x.of(2, 0), 7);
        is(x, "s2@1;s1@7", 2);
        Due.is("the seat", x.of(2, 0), 1);
        Due.is("the seat", x.of(1, 0), 7);
        is(x, "u1", 1);
        Due.is("the seat", x.of(1, 0), FoldedBench.NONE);
        is(x, "x0~1+;x1~2-", 2);
        Due.is("friends", x.of(1, 2), 1);
        Due.is("foes", x.of(1, 3), 4);
        is(x, "x0~1", 1);
        Due.is("friends", x.of(1, 2), 0);
        is(x, "f3;f2", 2);
        Due.is("how it lies", Bench.lies(x), "1.4.5.0/2.3.6/7");
        x.wipe();
        is(x, "o", 1);
        Due.is("columns", x.count(2), 5);
        is(x, "f4;o;o;f7", 4);
        Due.is("columns", x.count(2), 7);
    }

    private static void upToAnError() {
        FoldedBench x = Bench.seated(3, 4);
        x.relate(0, 1, -1);
        is(x, "c;f4;c", 1);
        Due.is("cousins", x.count(0), 3);
        Due.is("a fold is refused", x.count(3), 0);
        is(x, "o;c", 0);
        is(x, "s9@1;c", 0);
        is(x, "s0@9;c", 0);
        is(x, "s0@4;c", 0);
        is(x, "u2;c", 0);
        is(x, "x0~0;c", 0);
        is(x, "x0~12;c", 0);
        is(x, "f0;c", 0);
        is(x, "f8;c", 0);
        is(x, "f99;c", 0);
        is(x, "f1;s0@0;c", 1);
        is(x, "u0;c", 0);
        Due.is("cousins", x.count(0), 3);
        x.relate(0, 1, 0);
        is(x, "f1;f1;f1;f1;f1;c", 4);
        Due.is("folds", x.count(3), 5);
        is(x, "c;c;c;c;c;c;c;c;c;c;o", 9);
        Due.is("cousins", x.count(0), 12);
        Due.is("folds", x.count(3), 5);
    }

    private static void aFaultStays() {
        FoldedBench x = new FoldedBench();
        is(x, "", FoldedBench.BAD_TEXT);
        is(x, "c;c;", FoldedBench.BAD_TEXT);
        Due.is("the pad", Bench.pad(x), "c;c;");
        Due.is("nobody came", x.count(0), 0);
        Due.is("no change", x.count(12), 0);
        x.put('c');
        Due.is("then", x.carryOut(), 3);
        Due.is("cousins", x.count(0), 3);
        Due.is("a change", x.count(12), 1);
    }

    private static void oneChange() {
        FoldedBench x = new FoldedBench();
        is(x, "c;c;s0@0;s1@1;f1;f1;f1;f1", 8);
        Due.is("one change", x.count(12), 1);
        String before = Bench.seen(x);
        is(x, "f0", 0);
        Due.is("also if none is carried out", x.count(12), 2);
        Due.is("undo()", x.undo(), 1);
        Due.is("as before", Bench.seen(x), before);
        Due.is("undo()", x.undo(), 0);
        Due.is("nobody", x.count(0), 0);
        Due.is("columns", x.count(2), 8);
        Due.is("undo()", x.undo(), FoldedBench.NOT_POSSIBLE);
    }

    private static void greaterNumbers() {
        FoldedBench x = Bench.ofSeats(16);
        is(x, "c;c;c;c;c;c;c;c;c;c;c;c", 12);
        is(x, "s10@13;s11@10;x10~11+;x1~11-", 4);
        Due.is("the seat", x.of(10, 0), 13);
        Due.is("the seat", x.of(11, 0), 10);
        Due.is("friends", x.of(11, 2), 1 << 10);
        Due.is("foes", x.of(11, 3), 2);
        is(x, "f12", 1);
        Due.is("columns", x.count(2), 12);
        Due.is("unfold()", x.unfold(), 12);
        is(x, "u11", 1);
        Due.is("the seat", x.of(11, 0), FoldedBench.NONE);
        is(x, "u12", 0);
        is(x, "s1@16", 0);
        is(x, "f19", 0);
    }

    private static void fullPad() {
        FoldedBench x = new FoldedBench();
        is(x, "f1;o;".repeat(15) + "c;o;c", 31);
        Due.is("cousins", x.count(0), 1);
        is(x, "c;" + "f1;o;".repeat(15) + "f1", 32);
        Due.is("columns", x.count(2), 7);
    }
}
