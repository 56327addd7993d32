/** Promise 10: unfold. */
public final class P10UnfoldTest {
    public static void main(String[] args) {
        FoldedBench x = new FoldedBench();
        Due.is("unfold()", x.unfold(), FoldedBench.NOT_POSSIBLE);
        Due.is("changes", x.count(12), 0);
        x.fold(3);
        x.press(2);
        x.fold(1);
        Due.is("how it lies", Bench.lies(x), "1.4.5.0.6.3.2/7");
        Due.is("unfold()", x.unfold(), 1);
        Due.is("how it lies", Bench.lies(x), "1.4.5.0/2.3.6/7");
        Due.is("unfold()", x.unfold(), 2);
        Due.is("how it lies", Bench.lies(x), "2.3/1.4/0.5/6/7");
        Due.is("fold(4)", x.fold(4), 4);
        Due.is("unfold()", x.unfold(), 4);
        Due.is("unfold()", x.unfold(), 3);
        Due.is("how it lies", Bench.lies(x), "0/1/2/3/4/5/6/7");
        Due.is("unfold()", x.unfold(), FoldedBench.NOT_POSSIBLE);
        Due.is("changes", x.count(12), 6);
        afterTrials();
        Due.end();
    }

    /** What only would be leaves nothing behind. */
    private static void afterTrials() {
        FoldedBench x = new FoldedBench();
        x.fold(5);
        x.fold(2);
        String before = Bench.seen(x);
        x.ifFolded(2, 2);
        x.bestFold();
        x.fewestFolds();
        Due.is("nothing changes", Bench.seen(x), before);
        Due.is("unfold()", x.unfold(), 2);
        x.ifFolded(4, 2);
        x.fewestFolds();
        Due.is("unfold()", x.unfold(), 5);
        Due.is("how it lies", Bench.lies(x), "0/1/2/3/4/5/6/7");
    }
}
