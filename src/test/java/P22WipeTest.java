/** Promise 22: wipe. */
public final class P22WipeTest {
    public static void main(String[] args) {
        FoldedBench x = new FoldedBench();
        Due.is("wipe() of nothing", x.wipe(), 0);
        Bench.put(x, "c;c;fau");
        Due.is("wipe()", x.wipe(), 7);
        Due.is("the length", x.count(11), 0);
        Due.is("the pad", Bench.pad(x), "");
        Due.is("wipe() again", x.wipe(), 0);
        Bench.put(x, "o");
        Due.is("the pad", Bench.pad(x), "o");
        Due.is("no change", x.count(12), 0);
        Due.is("no cousin came", x.count(0), 0);
        Bench.put(x, "o".repeat(79));
        Due.is("wipe() of all", x.wipe(), 80);
        Due.end();
    }
}
