/** Promise 8: fold, and how a bench lies then. */
public final class P08FoldTest {
    public static void main(String[] args) {
        inTheMiddle();
        nearTheEnds();
        againAndAgain();
        gapsOutOfRange();
        fiveFolds();
        foesWouldFace();
        foesFaceAlready();
        Due.end();
    }

    private static void inTheMiddle() {
        FoldedBench x = new FoldedBench();
        Due.is("fold(4)", x.fold(4), 4);
        Due.is("how it lies", Bench.lies(x), "3.4/2.5/1.6/0.7");
        Due.is("fold(2)", x.fold(2), 2);
        Due.is("how it lies", Bench.lies(x), "2.5.6.1/3.4.7.0");
        Due.is("fold(1)", x.fold(1), 1);
        Due.is("how it lies", Bench.lies(x), "2.5.6.1.0.7.4.3");
        Due.is("folds", x.count(3), 3);
        Due.is("changes", x.count(12), 3);
    }

    private static void nearTheEnds() {
        FoldedBench x = new FoldedBench();
        Due.is("fold(3)", x.fold(3), 5);
        Due.is("the left end over", Bench.lies(x), "2.3/1.4/0.5/6/7");
        Due.is("fold(4)", x.fold(4), 4);
        Due.is("the right end over", Bench.lies(x), "6.7/0.5/1.4/2.3");
        x = new FoldedBench();
        Due.is("fold(7)", x.fold(7), 7);
        Due.is("only the last one turned over", Bench.lies(x), "6.7/5/4/3/2/1/0");
        Due.is("fold(1)", x.fold(1), 6);
        Due.is("only the first one below", Bench.lies(x), "6.7.5/4/3/2/1/0");
    }

    /** Columns beyond the left end's are turned over, even if nothing lies below them. */
    private static void againAndAgain() {
        FoldedBench x = Bench.ofSeats(5);
        Due.is("fold(4)", x.fold(4), 4);
        Due.is("how it lies", Bench.lies(x), "3.4/2/1/0");
        Due.is("fold(3)", x.fold(3), 3);
        Due.is("how it lies", Bench.lies(x), "1.0/2/3.4");
        Due.is("fold(1)", x.fold(1), 2);
        Due.is("how it lies", Bench.lies(x), "1.0.2/4.3");
    }

    private static void gapsOutOfRange() {
        FoldedBench x = new FoldedBench();
        int[] none = {0, -1, 8, 9, Integer.MIN_VALUE, Integer.MAX_VALUE};
        for (int gap : none) {
            Due.is("fold(" + gap + ")", x.fold(gap), FoldedBench.BAD_VALUE);
        }
        Due.is("changes", x.count(12), 0);
        x.fold(5);
        Due.is("fold(5) of 5 columns", x.fold(5), FoldedBench.BAD_VALUE);
        x = Bench.ofSeats(2);
        Due.is("fold(1)", x.fold(1), 1);
        Due.is("one column", x.fold(1), FoldedBench.BAD_VALUE);
        Due.is("folds", x.count(3), 1);
    }

    private static void fiveFolds() {
        FoldedBench x = Bench.ofSeats(16);
        for (int i = 1; i <= 5; i++) {
            Due.is("fold(1)", x.fold(1), 16 - i);
        }
        String before = Bench.seen(x);
        Due.is("a 6th", x.fold(1), FoldedBench.TOO_MANY);
        Due.is("a 6th, out of range", x.fold(11), FoldedBench.BAD_VALUE);
        Due.is("a 6th, out of range", x.fold(0), FoldedBench.BAD_VALUE);
        Due.is("nothing changes", Bench.seen(x), before);
        Due.is("how it lies", Bench.lies(x), "0.1.2.3.4.5/6/7/8/9/10/11/12/13/14/15");
    }

    private static void foesWouldFace() {
        FoldedBench x = Bench.seated(0, 7, 3, 4);
        x.relate(0, 1, -1);
        x.relate(2, 3, 1);
        String before = Bench.seen(x);
        Due.is("0 and 7 would face", x.fold(4), FoldedBench.NOT_POSSIBLE);
        Due.is("nothing changes", Bench.seen(x), before);
        x.relate(2, 3, -1);
        x.relate(0, 1, 1);
        Due.is("3 and 4 would face", x.fold(4), FoldedBench.NOT_POSSIBLE);
        x.relate(2, 3, 0);
        Due.is("friends face", x.fold(4), 4);
        x = Bench.seated(1, 6);
        x.relate(0, 1, -1);
        x.stand(1);
        Due.is("a foe who stands faces nobody", x.fold(4), 4);
    }

    private static void foesFaceAlready() {
        FoldedBench x = Bench.seated(0, 1);
        x.relate(0, 1, -1);
        Due.is("fold(1)", x.fold(1), FoldedBench.NOT_POSSIBLE);
        Due.is("press(1)", x.press(1), 1);
        Due.is("elsewhere", x.fold(6), FoldedBench.NOT_POSSIBLE);
        Due.is("out of range", x.fold(7), FoldedBench.BAD_VALUE);
        x.relate(0, 1, 0);
        Due.is("no foes any more", x.fold(6), 6);
    }
}
