/** Promise 9: press. */
public final class P09PressTest {
    public static void main(String[] args) {
        foesFace();
        errors();
        Due.end();
    }

    private static void foesFace() {
        FoldedBench x = Bench.seated(0, 7, 3, 4, 1);
        x.relate(0, 1, -1);
        x.relate(2, 3, -1);
        Due.is("two pairs", x.press(4), 2);
        Due.is("how it lies", Bench.lies(x), "3.4/2.5/1.6/0.7");
        x.relate(4, 0, -1);
        Due.is("those who face already count", x.press(1), 2);
        Due.is("how it lies", Bench.lies(x), "3.4.5.2/6.1/7.0");
        Due.is("another pair", x.press(2), 3);
        Due.is("how it lies", Bench.lies(x), "6.1.0.7/3.4.5.2");
        x.relate(0, 1, 1);
        Due.is("friends don't count", x.press(1), 2);
        Due.is("folds", x.count(3), 4);
        Due.is("changes", x.count(12), 6);
    }

    private static void errors() {
        FoldedBench x = Bench.ofSeats(16);
        int[] none = {0, -1, 16, 17, Integer.MIN_VALUE, Integer.MAX_VALUE};
        for (int gap : none) {
            Due.is("press(" + gap + ")", x.press(gap), FoldedBench.BAD_VALUE);
        }
        for (int i = 0; i < 5; i++) {
            Due.is("press(1)", x.press(1), 0);
        }
        String before = Bench.seen(x);
        Due.is("a 6th", x.press(10), FoldedBench.TOO_MANY);
        Due.is("a 6th, out of range", x.press(11), FoldedBench.BAD_VALUE);
        Due.is("nothing changes", Bench.seen(x), before);
    }
}
