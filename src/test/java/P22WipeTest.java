/** Promise 22: wipe. */
public final class P22WipeTest {
    public static void main(String[] args) {
        Due.about("Promise 22, wipe");
        Due.test("Empties the pad", P22WipeTest::empties);
        Due.test("returns the length that it had: 0 to 80", P22WipeTest::lengths);
        Due.test("texts are no changes, and no orders are carried out", P22WipeTest::noChange);
        Due.end();
    }

    private static void empties() {
        FoldedBench x = new FoldedBench();
        Bench.put(x, "c;c;fau");
        x.wipe();
        Due.is("the length", x.count(11), 0);
        Due.is("sign(0)", x.sign(0), FoldedBench.NO_SUCH);
        Bench.put(x, "o");
        Due.is("the pad", Bench.pad(x), "o");
    }

    private static void lengths() {
        Due.is("wipe() of nothing", new FoldedBench().wipe(), 0);
        for (int length : new int[] {1, 2, 79, 80}) {
            FoldedBench x = new FoldedBench();
            Bench.put(x, "o".repeat(length));
            Due.is("wipe() of " + length, x.wipe(), length);
            Due.is("wipe() again", x.wipe(), 0);
        }
        FoldedBench x = new FoldedBench();
        x.write();
        Due.is("wipe() of how it lies", x.wipe(), 15);
    }

    private static void noChange() {
        FoldedBench x = Bench.seated(0);
        String before = Bench.seen(x);
        Bench.put(x, "c;c");
        Due.is("wipe()", x.wipe(), 3);
        Due.is("all after it", Bench.seen(x), before);
        Bench.put(x, "c;c");
        x.wipe();
        Due.is("undo()", x.undo(), 1);
        Due.is("the pad stays empty", x.count(11), 0);
    }
}
