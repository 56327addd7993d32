/** Promise 26: save. */
public final class P26SaveTest {
    public static void main(String[] args) {
        FoldedBench x = new FoldedBench();
        Due.is("save(0)", x.save(0), 0);
        x.cousin();
        x.cousin();
        x.sit(0, 0);
        x.relate(0, 1, 1);
        x.set(FoldedBench.FACE, 7);
        x.fold(2);
        x.fold(1);
        String before = Bench.seen(x);
        Due.is("save(1)", x.save(1), 2);
        Due.is("nothing changes", Bench.seen(x), before);
        int[] none = {-1, 2, Integer.MIN_VALUE, Integer.MAX_VALUE};
        for (int slot : none) {
            Due.is("save(" + slot + ")", x.save(slot), FoldedBench.BAD_VALUE);
        }
        Due.is("restore(0)", x.restore(0), 0);
        Due.is("as it was", x.count(2), 8);
        Due.is("restore(1)", x.restore(1), 2);
        Due.is("as it was", Bench.seen(x), before);
        x.cousin();
        Due.is("overwrites", x.save(0), 3);
        x.restore(1);
        Due.is("restore(0)", x.restore(0), 3);
        Due.end();
    }
}
