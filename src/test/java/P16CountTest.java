/** Promise 16: count. */
public final class P16CountTest {
    public static void main(String[] args) {
        FoldedBench x = Bench.seated(0, 7, 3, 4, -1, 2);
        is(x, 6, 47, 8, 0, 0, 0, 25, 1, 8, 1, 3, 0, 6);
        x.relate(0, 1, 1);
        x.relate(2, 3, -1);
        is(x, 6, 47, 8, 0, 0, 0, 23, 1, 8, 1, 3, 0, 6);
        x.press(4);
        is(x, 6, 47, 4, 1, 1, 1, 23, 2, 8, 1, 3, 0, 6);
        x.relate(2, 3, 1);
        is(x, 6, 47, 4, 1, 0, 2, 39, 2, 8, 1, 3, 0, 6);
        x.set(FoldedBench.NEAR, 4);
        x.set(FoldedBench.FACE, 0);
        Bench.put(x, "abc");
        is(x, 6, 47, 4, 1, 0, 2, 33, 2, 8, 4, 0, 3, 6);
        x.undo();
        x.undo();
        is(x, 6, 47, 4, 1, 0, 2, 39, 2, 8, 1, 3, 3, 4);
        x.fold(2);
        x.fold(1);
        is(x, 6, 47, 1, 3, 0, 2, 39, 8, 8, 1, 3, 3, 6);
        int[] none = {-1, 13, Integer.MIN_VALUE, Integer.MAX_VALUE};
        for (int what : none) {
            Due.is("count(" + what + ")", x.count(what), FoldedBench.BAD_VALUE);
        }
        highestStack();
        toastOfUnhappy();
        Due.end();
    }

    private static void is(FoldedBench x, int... due) {
        for (int what = 0; what < 13; what++) {
            Due.is("count(" + what + ")", x.count(what), due[what]);
        }
    }

    private static void highestStack() {
        FoldedBench x = Bench.ofSeats(7);
        x.fold(2);
        x.fold(4);
        Due.is("how it lies", Bench.lies(x), "5.6/4/0.3/1.2");
        Due.is("highest", x.count(7), 2);
        x.fold(3);
        Due.is("how it lies", Bench.lies(x), "0.3.2.1/4/5.6");
        Due.is("highest", x.count(7), 4);
        x.fold(2);
        Due.is("how it lies", Bench.lies(x), "4.6.5/0.3.2.1");
        Due.is("the highest is not the first", x.count(7), 4);
    }

    private static void toastOfUnhappy() {
        FoldedBench x = Bench.seated(0, 1);
        x.relate(0, 1, -1);
        x.set(FoldedBench.NEAR, 5);
        Due.is("toast", x.count(6), 0);
    }
}
