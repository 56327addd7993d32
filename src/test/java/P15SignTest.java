/** Promise 15: sign. */
public final class P15SignTest {
    public static void main(String[] args) {
        FoldedBench x = new FoldedBench();
        Due.is("sign(0) of nothing", x.sign(0), FoldedBench.NO_SUCH);
        Bench.put(x, "!a~");
        Due.is("sign(0)", x.sign(0), '!');
        Due.is("sign(1)", x.sign(1), 'a');
        Due.is("sign(2)", x.sign(2), '~');
        int[] none = {-1, 3, 79, 80, Integer.MIN_VALUE, Integer.MAX_VALUE};
        for (int place : none) {
            Due.is("sign(" + place + ")", x.sign(place), FoldedBench.NO_SUCH);
        }
        x.wipe();
        Due.is("sign(0) when wiped", x.sign(0), FoldedBench.NO_SUCH);
        for (int i = 0; i < 10; i++) {
            Bench.put(x, "abcdefgh");
        }
        Due.is("sign(79)", x.sign(79), 'h');
        Due.is("sign(80)", x.sign(80), FoldedBench.NO_SUCH);
        x.write();
        Due.is("sign(14)", x.sign(14), '7');
        Due.is("sign(15)", x.sign(15), FoldedBench.NO_SUCH);
        Due.end();
    }
}
