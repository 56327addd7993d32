/** Promise 18: bestFold. */
public final class P18BestFoldTest {
    public static void main(String[] args) {
        friendsMeet();
        lowestOfSeveral();
        foesWouldFace();
        noneAtAll();
        sadToast();
        Due.end();
    }

    private static void friendsMeet() {
        FoldedBench x = Bench.seated(2, 7, 0);
        Due.is("nobody cares", x.bestFold(), 1);
        x.relate(0, 1, 1);
        String before = Bench.seen(x);
        Due.is("2 and 7 meet at 5", x.bestFold(), 5);
        Due.is("nothing changes", Bench.seen(x), before);
        x.fold(5);
        Due.is("1 is best then", x.bestFold(), 1);
        x.relate(2, 1, 1);
        Due.is("how it lies", Bench.lies(x), "4.5/3.6/2.7/1/0");
        Due.is("7 on top of 2 meets 0 at 4, which doesn't lie in reach", x.ifFolded(4, 2), 21);
    }

    private static void lowestOfSeveral() {
        FoldedBench x = Bench.seated(1, 2, 5, 6);
        x.relate(0, 1, 1);
        x.relate(2, 3, 1);
        Due.is("2 is as good as 6", x.bestFold(), 2);
        Due.is("toast at 2", x.ifFolded(2, 2), 30);
        Due.is("toast at 6", x.ifFolded(6, 2), 30);
        x.stand(1);
        Due.is("6 alone", x.bestFold(), 6);
    }

    private static void foesWouldFace() {
        FoldedBench x = Bench.seated(0, 1, 2);
        x.relate(0, 1, -1);
        Due.is("not 1", x.bestFold(), 2);
        x.relate(0, 1, 0);
        x.relate(1, 2, -1);
        Due.is("1 again", x.bestFold(), 1);
        x = Bench.seated(1, 2, 0, 3);
        x.set(FoldedBench.FACE, 4);
        x.relate(0, 1, 1);
        x.relate(2, 3, -1);
        Due.is("a fold is better at 2", x.ifFolded(2, 2), 20);
        Due.is("but foes would face", x.bestFold(), 1);
    }

    private static void noneAtAll() {
        FoldedBench x = Bench.ofSeats(2);
        x.cousin();
        x.cousin();
        x.sit(0, 0);
        x.sit(1, 1);
        x.relate(0, 1, -1);
        Due.is("the only gap brings foes together", x.bestFold(), FoldedBench.NONE);
        x.relate(0, 1, 0);
        Due.is("the only gap", x.bestFold(), 1);
        x.fold(1);
        Due.is("one column", x.bestFold(), FoldedBench.NONE);
        x = Bench.seated(0, 1);
        x.relate(0, 1, -1);
        x.press(1);
        Due.is("foes face already", x.bestFold(), FoldedBench.NONE);
        x = Bench.ofSeats(16);
        for (int i = 0; i < 5; i++) {
            Due.is("bestFold()", x.bestFold(), 1);
            x.fold(1);
        }
        Due.is("five folds", x.bestFold(), FoldedBench.NONE);
    }

    /** A toast of 0 is a toast, too. */
    private static void sadToast() {
        FoldedBench x = Bench.seated(0, 1);
        x.relate(0, 1, -1);
        x.set(FoldedBench.NEAR, 5);
        Due.is("toast", x.count(6), 0);
        Due.is("bestFold()", x.bestFold(), 2);
    }
}
