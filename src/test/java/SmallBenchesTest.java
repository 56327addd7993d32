import java.util.Arrays;

/** Every small bench there is, not only those that chance or a sentence brings: each answer has to be the Model's. */
public final class SmallBenchesTest {
    private static FoldedBench x;
    private static Model model;
    private static String lived = "";
    private static boolean alike = true;

    public static void main(String[] args) {
        Due.about("Small benches");
        Due.test("two seats: each who sits where, each feud, each way to lie", () -> allBenches(2));
        Due.test("three seats: each who sits where, each feud, each way to lie", () -> allBenches(3));
        Due.test("four seats: each who sits where, each feud, each way to lie", () -> allBenches(4));
        Due.test("five seats: each set of pairs of foes, unfolded and folded once", SmallBenchesTest::fiveSeats);
        Due.end();
    }

    private static void allBenches(int seats) {
        for (int taken = 0; taken < 1 << seats; taken++) {
            int cousins = Integer.bitCount(taken);
            int feuds = power(3, cousins * (cousins - 1) / 2);
            for (int feud = 0; feud < feuds; feud++) {
                foldOn(seats, taken, feud, 3, new int[0], 5);
            }
        }
        Due.holds("all answers", alike);
    }

    private static void fiveSeats() {
        for (int feud = 0; feud < 1 << 10; feud++) {
            foldOn(5, 31, feud, 2, new int[0], 1);
        }
        Due.holds("all answers", alike);
    }

    private static int power(int base, int exponent) {
        return exponent == 0 ? 1 : base * power(base, exponent - 1);
    }

    /** Asks all of a bench with these folds, then of those that it can be made by further ones. */
    private static void foldOn(int seats, int taken, int feud, int ways, int[] gaps, int further) {
        if (!alike) {
            return;
        }
        make(seats, taken, feud, ways);
        for (int gap : gaps) {
            same("press(" + gap + ")", x.press(gap), model.press(gap));
        }
        askAll(seats);
        int columns = model.count(2);
        for (int gap = 1; gap < columns && further > 0; gap++) {
            int[] more = Arrays.copyOf(gaps, gaps.length + 1);
            more[gaps.length] = gap;
            foldOn(seats, taken, feud, ways, more, further - 1);
        }
    }

    /** The digits of a feud, to the base of the ways, tell how each pair is: foes, neither, friends. */
    private static void make(int seats, int taken, int feud, int ways) {
        x = new FoldedBench();
        model = new Model();
        lived = seats + " seats, " + taken + " taken, feud " + feud + " of " + ways + " ways: ";
        same("set(0)", x.set(0, seats), model.set(0, seats));
        same("set(1)", x.set(1, 2), model.set(1, 2));
        same("set(2)", x.set(2, 1), model.set(2, 1));
        int cousins = 0;
        for (int seat = seats - 1; seat >= 0; seat--) {
            if ((taken >> seat & 1) != 0) {
                same("cousin()", x.cousin(), model.cousin());
                same("sit()", x.sit(cousins, seat), model.sit(cousins, seat));
                cousins++;
            }
        }
        int rest = feud;
        for (int i = 0; i < cousins; i++) {
            for (int j = 0; j < i; j++) {
                int how = rest % ways - 1;
                rest /= ways;
                same("relate()", x.relate(i, j, how), model.relate(i, j, how));
            }
        }
    }

    private static void askAll(int seats) {
        for (int what = 0; what <= 12; what++) {
            same("count(" + what + ")", x.count(what), model.count(what));
        }
        for (int cousin = 0; cousin <= model.count(0); cousin++) {
            for (int what = 0; what <= 6; what++) {
                same("of(" + cousin + ", " + what + ")", x.of(cousin, what), model.of(cousin, what));
            }
        }
        for (int seat = 0; seat <= seats; seat++) {
            for (int what = 0; what <= 5; what++) {
                same("ofSeat(" + seat + ", " + what + ")", x.ofSeat(seat, what), model.ofSeat(seat, what));
            }
        }
        for (int what = 0; what <= 3; what++) {
            same("bestSwap(" + what + ")", x.bestSwap(what), model.bestSwap(what));
        }
        same("bestFold()", x.bestFold(), model.bestFold());
        same("fewestFolds()", x.fewestFolds(), model.fewestFolds());
        askGaps();
    }

    private static void askGaps() {
        int columns = model.count(2);
        for (int gap = 0; gap <= columns; gap++) {
            for (int what = 0; what <= 5; what++) {
                same("ifFolded(" + gap + ", " + what + ")", x.ifFolded(gap, what), model.ifFolded(gap, what));
            }
            int answer = x.fold(gap);
            same("fold(" + gap + ")", answer, model.fold(gap));
            if (answer >= 0) {
                same("undo()", x.undo(), model.undo());
            }
        }
        same("write()", x.write(), model.write());
        for (int place = 0; place <= model.count(11); place++) {
            same("sign(" + place + ")", x.sign(place), model.sign(place));
        }
    }

    private static void same(String call, int answer, int due) {
        if (answer != due && alike) {
            alike = false;
            Due.is(lived + call, answer, due);
        }
    }
}
