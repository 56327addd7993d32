/** Promise 23: fault. Where the faults of texts are is tested by TermsTextsTest. */
public final class P23FaultTest {
    private static final int NONE = FoldedBench.NONE;

    public static void main(String[] args) {
        Due.about("Promise 23, fault");
        Due.test("Returns the fault of the pad: 0 to 80", P23FaultTest::faults);
        Due.test("NONE if there is none", P23FaultTest::none);
        Due.test("the pad as it is then", P23FaultTest::padThen);
        Due.test("orders that would be refused are no fault", P23FaultTest::refusedOrders);
        Due.test("texts are no changes, and no orders are carried out", P23FaultTest::noChange);
        Due.end();
    }

    private static void faults() {
        for (int orders = 0; orders < 40; orders++) {
            FoldedBench x = new FoldedBench();
            Bench.put(x, "c;".repeat(orders));
            Due.is("fault() after " + orders + " orders", x.fault(), 2 * orders);
            x.put('!');
            Due.is("of a wrong one", x.fault(), 2 * orders);
            x.put(';');
            Due.is("of a wrong one, and more", x.fault(), 2 * orders);
        }
        FoldedBench x = new FoldedBench();
        Bench.put(x, "c;".repeat(40));
        Due.is("of a full pad", x.fault(), 80);
    }

    private static void none() {
        for (int orders = 1; orders <= 40; orders++) {
            FoldedBench x = new FoldedBench();
            Bench.put(x, "o;".repeat(orders - 1) + "c");
            Due.is("fault() of " + orders + " orders", x.fault(), NONE);
        }
    }

    private static void padThen() {
        FoldedBench x = new FoldedBench();
        Due.is("nothing", x.fault(), 0);
        x.put('f');
        Due.is("f", x.fault(), 1);
        x.put('1');
        Due.is("f1", x.fault(), NONE);
        x.put('0');
        Due.is("f10", x.fault(), NONE);
        x.put('0');
        Due.is("f100", x.fault(), 3);
        Due.is("asked again", x.fault(), 3);
        x.write();
        Due.is("how it lies", x.fault(), 0);
        x.wipe();
        Due.is("nothing", x.fault(), 0);
    }

    private static void refusedOrders() {
        for (String text : new String[] {"s99@99", "u12", "x0~0", "x3~3+", "f0", "f99", "o;o", "s0@0;s0@0"}) {
            Due.is("fault of \"" + text + "\"", Bench.faultOf(new FoldedBench(), text), NONE);
        }
    }

    private static void noChange() {
        FoldedBench x = Bench.lived();
        String before = Bench.seen(x) + Bench.pad(x);
        Due.is("fault()", x.fault(), NONE);
        x.fault();
        Due.is("all after it", Bench.seen(x) + Bench.pad(x), before);
    }
}
