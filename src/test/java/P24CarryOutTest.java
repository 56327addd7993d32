/** Promise 24: carryOut. */
public final class P24CarryOutTest {
    private static final int BAD_TEXT = FoldedBench.BAD_TEXT;

    public static void main(String[] args) {
        Due.about("Promise 24, carryOut");
        Due.test("\"c\": cousin()", P24CarryOutTest::cousin);
        Due.test("\"s\": sit() of a cousin on a seat", P24CarryOutTest::sit);
        Due.test("\"u\": stand()", P24CarryOutTest::stand);
        Due.test("\"x\": relate(): friends with \"+\", foes with \"-\", neither without", P24CarryOutTest::relate);
        Due.test("\"f\": fold()", P24CarryOutTest::fold);
        Due.test("\"o\": unfold()", P24CarryOutTest::unfold);
        Due.test("numbers of two digits, and numbers that none has", P24CarryOutTest::greaterNumbers);
        Due.test("one after the other", P24CarryOutTest::oneAfterTheOther);
        Due.test("up to the first one that returns an error: each error", P24CarryOutTest::upToEachError);
        Due.test("up to the first one that returns an error: NONE is none", P24CarryOutTest::noneIsNoError);
        Due.test("Returns how many orders were carried out: 0 to 35, the most that a pad has room for",
            P24CarryOutTest::howMany);
        Due.test("empties the pad: also if none is carried out", P24CarryOutTest::emptiesThePad);
        Due.test("This is a change (one, with all of them)", P24CarryOutTest::oneChange);
        Due.test("(also if none is carried out)", P24CarryOutTest::changeWithoutOrders);
        Due.test("BAD_TEXT if the pad has a fault (then it stays): nothing is carried out", P24CarryOutTest::badText);
        Due.test("BAD_TEXT if the pad is empty", P24CarryOutTest::emptyPad);
        Due.end();
    }

    private static void is(FoldedBench x, String text, int due) {
        Due.is("carryOut() of \"" + text + "\"", Bench.carryOut(x, text), due);
        Due.is("the length", x.count(11), 0);
    }

    private static void cousin() {
        FoldedBench x = new FoldedBench();
        is(x, "c", 1);
        Due.is("cousins", x.count(0), 1);
        is(x, "c;c;c;c;c;c;c;c;c;c;c", 11);
        Due.is("cousins", x.count(0), 12);
        is(x, "c", 0);
        Due.is("cousins", x.count(0), 12);
    }

    private static void sit() {
        FoldedBench x = Bench.seated(-1, -1);
        is(x, "s1@7", 1);
        Due.is("the seat", x.of(1, 0), 7);
        is(x, "s1@0;s0@7", 2);
        Due.is("the seat", x.of(1, 0), 0);
        Due.is("the seat", x.of(0, 0), 7);
    }

    private static void stand() {
        FoldedBench x = Bench.seated(0, 7);
        is(x, "u1", 1);
        Due.is("who sit", x.count(1), 1);
        is(x, "u0", 1);
        Due.is("who sit", x.count(1), 0);
        is(x, "u0", 0);
    }

    private static void relate() {
        FoldedBench x = Bench.seated(-1, -1, -1);
        is(x, "x0~1+;x1~2-", 2);
        Due.is("friends", x.of(1, 2), 1);
        Due.is("foes", x.of(1, 3), 4);
        is(x, "x0~1", 1);
        Due.is("friends", x.of(1, 2), 0);
        is(x, "x2~1;x0~1-", 2);
        Due.is("foes", x.of(1, 3), 1);
        is(x, "x0~2+;x0~1", 2);
        Due.is("friends", x.of(0, 2), 4);
        Due.is("foes", x.of(0, 3), 0);
    }

    private static void fold() {
        FoldedBench x = new FoldedBench();
        is(x, "f3;f2", 2);
        Due.is("how it lies", Bench.lies(x), "1.4.5.0/2.3.6/7");
        x = Bench.seated(3, 4);
        x.relate(0, 1, -1);
        is(x, "f4", 0);
        Due.is("a fold is refused as foes would face", x.count(3), 0);
    }

    private static void unfold() {
        FoldedBench x = Bench.pressed(new FoldedBench(), 3, 2);
        is(x, "o", 1);
        Due.is("how it lies", Bench.lies(x), "2.3/1.4/0.5/6/7");
        x.wipe();
        is(x, "o;o", 1);
        Due.is("folds", x.count(3), 0);
    }

    private static void greaterNumbers() {
        FoldedBench x = Bench.ofSeats(16);
        is(x, "c;c;c;c;c;c;c;c;c;c;c;c", 12);
        is(x, "s10@13;s11@10;x10~11+;x1~11-", 4);
        Due.is("the seat", x.of(10, 0), 13);
        Due.is("the seat", x.of(11, 0), 10);
        Due.is("friends", x.of(11, 2), 1 << 10);
        Due.is("foes", x.of(11, 3), 2);
        is(x, "f12", 1);
        Due.is("unfold()", x.unfold(), 12);
        is(x, "u11", 1);
        Due.is("the seat", x.of(11, 0), FoldedBench.NONE);
        String[] refused = {"u12", "u99", "s1@16", "s1@99", "s12@0", "x0~12", "x99~0", "f16", "f99", "f0"};
        for (String text : refused) {
            is(x, text, 0);
        }
    }

    private static void oneAfterTheOther() {
        is(new FoldedBench(), "c;s0@0;c;s1@1;x0~1-;f2;o;x0~1;f1;f1", 10);
        FoldedBench x = new FoldedBench();
        is(x, "c;s0@0;c;s1@1;x0~1-;f2;o;f1;f1", 7);
        Due.is("foes would face at 1", x.count(3), 0);
        is(x, "f1;c", 0);
        is(x, "u0;f1;o;s0@0;f1;c", 4);
    }

    private static void upToEachError() {
        String[] texts = {"s9@1", "s0@8", "u2", "x0~2", "x0~0+", "f0", "f8", "s0@4", "s0@3", "f4", "o"};
        for (String text : texts) {
            FoldedBench x = Bench.seated(3, 4);
            x.relate(0, 1, -1);
            is(x, text + ";c", 0);
            Due.is("nobody came after " + text, x.count(0), 2);
            is(x, "f3;o;" + text + ";c", 2);
            Due.is("nobody came after " + text, x.count(0), 2);
        }
        FoldedBench x = new FoldedBench();
        is(x, "f1;f1;f1;f1;f1;c", 6);
        is(x, "f1;c", 0);
        Due.is("a 6th fold", x.count(0), 1);
        is(x, "o;s0@0;c", 1);
        Due.is("a folded bench", x.count(0), 1);
        is(x, "c;c;c;c;c;c;c;c;c;c;c;c;o", 11);
        Due.is("a 13th cousin", x.count(3), 4);
    }

    private static void noneIsNoError() {
        FoldedBench x = Bench.seated(-1, -1);
        is(x, "s0@0;s1@1;c", 3);
        Due.is("cousins", x.count(0), 3);
    }

    private static void howMany() {
        FoldedBench x = new FoldedBench();
        is(x, "u0", 0);
        is(x, "c", 1);
        is(x, "f1;o;".repeat(15) + "c;o;c", 31);
        is(x, "c;c;c;c;c;c;c;c;c;" + "f1;o;".repeat(12) + "c", 34);
        is(x, "o;".repeat(39) + "o", 0);
        x = Bench.foldedTimes(Bench.ofSeats(16), 5);
        is(x, "o;".repeat(39) + "o", 5);
        x = Bench.foldedTimes(Bench.ofSeats(16), 5);
        is(x, "o;".repeat(5) + "c;".repeat(12) + "f1;o;".repeat(8) + "f1;o", 35);
        is(new FoldedBench(), "c;".repeat(39) + "c", 12);
        is(new FoldedBench(), "c;".repeat(12) + "f1;o;".repeat(10) + "f1;o", 34);
        is(Bench.seated(-1), "x0~0;".repeat(16).substring(0, 79), 0);
        is(Bench.seated(-1, -1), "x0~1;".repeat(16).substring(0, 79), 16);
    }

    private static void emptiesThePad() {
        FoldedBench x = new FoldedBench();
        Bench.put(x, "c;u5;c");
        Due.is("carryOut()", x.carryOut(), 1);
        Due.is("after an error", x.count(11), 0);
        Bench.put(x, "o");
        Due.is("carryOut()", x.carryOut(), 0);
        Due.is("none is carried out", x.count(11), 0);
        Due.is("sign(0)", x.sign(0), FoldedBench.NO_SUCH);
        Due.is("put()", x.put('c'), 1);
        Due.is("only the new one", x.carryOut(), 1);
    }

    private static void oneChange() {
        FoldedBench x = new FoldedBench();
        is(x, "c;c;s0@0;s1@1;f1;f1;f1;f1", 8);
        Due.is("one change", x.count(12), 1);
        Due.is("undo()", x.undo(), 0);
        Due.is("nobody", x.count(0), 0);
        Due.is("columns", x.count(2), 8);
        is(x, "c;c;s0@0;f8;c", 3);
        Due.is("one change, up to an error", x.count(12), 1);
        Due.is("undo()", x.undo(), 0);
        Due.is("nobody", x.count(0), 0);
        Due.is("undo()", x.undo(), FoldedBench.NOT_POSSIBLE);
    }

    private static void changeWithoutOrders() {
        FoldedBench x = Bench.seated(0);
        String before = Bench.state(x);
        is(x, "f0", 0);
        Due.is("a change", x.count(12), 3);
        Due.is("undo()", x.undo(), 2);
        Due.is("as before", Bench.state(x), before);
    }

    private static FoldedBench livedWith(String text) {
        FoldedBench x = Bench.lived();
        x.wipe();
        Bench.put(x, text);
        return x;
    }

    private static void badText() {
        for (String text : new String[] {"c;c;", "c;f100", "c;", "c;x0~1*", "s0@0;s", "C", ";c", "c;c;c;c;c;c,"}) {
            Bench.refuses("carryOut() of \"" + text + "\"", BAD_TEXT, () -> livedWith(text), FoldedBench::carryOut);
        }
        FoldedBench x = livedWith("c;f10");
        x.put('0');
        Due.is("carryOut()", x.carryOut(), BAD_TEXT);
        Due.is("the pad stays", Bench.pad(x), "c;f100");
        x = livedWith("c;c;");
        Due.is("carryOut()", x.carryOut(), BAD_TEXT);
        x.put('c');
        Due.is("without the fault", x.carryOut(), 3);
    }

    private static void emptyPad() {
        Bench.refuses("carryOut()", BAD_TEXT, () -> livedWith(""), FoldedBench::carryOut);
        FoldedBench x = new FoldedBench();
        is(x, "c", 1);
        Due.is("again", x.carryOut(), BAD_TEXT);
        Due.is("cousins", x.count(0), 1);
        Due.is("changes", x.count(12), 1);
    }
}
