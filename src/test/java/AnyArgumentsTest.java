import java.util.function.Supplier;

/** LANGUAGE.md, 7: no call may ever throw, for any arguments in any state; what is no error is 0 or more, or NONE. */
public final class AnyArgumentsTest {
    private static final int[] ANY = {
        Integer.MIN_VALUE, Integer.MIN_VALUE + 1, -65536, -32, -6, -1, 0, 1, 5, 11, 12, 15, 16, 31, 32, 80, 255, 65536,
        Integer.MAX_VALUE - 1, Integer.MAX_VALUE,
    };

    public static void main(String[] args) {
        Due.about("Any arguments");
        Due.test("of a new bench", () -> all(FoldedBench::new));
        Due.test("of two seats", () -> all(() -> Bench.full(2)));
        Due.test("of one column", () -> all(() -> Bench.pressed(Bench.ofSeats(2), 1)));
        Due.test("of a bench with a past", () -> all(Bench::lived));
        Due.test("of a folded bench with a past", () -> all(Bench::livedAndFolded));
        Due.test("of sixteen seats, twelve foes, five folds, a full pad", () -> all(AnyArgumentsTest::crowded));
        Due.end();
    }

    private static FoldedBench crowded() {
        FoldedBench x = Bench.all(Bench.full(12), -1);
        x.set(FoldedBench.SEATS, 16);
        Bench.put(x, "c;".repeat(40));
        return Bench.pressed(x, 1, 14, 2, 3, 4);
    }

    private static void all(Supplier<FoldedBench> made) {
        for (int a : ANY) {
            one(made.get(), a);
            for (int b : ANY) {
                two(made.get(), a, b);
                for (int c : new int[] {Integer.MIN_VALUE, -2, -1, 0, 1, 2, Integer.MAX_VALUE}) {
                    answers("relate", made.get().relate(a, b, c));
                }
            }
        }
    }

    private static void one(FoldedBench x, int a) {
        answers("bestSwap", x.bestSwap(a));
        answers("put", x.put(a));
        answers("put", x.put((long) a << 32));
        answers("put", x.put((long) a << 32 | 0x63636363L));
        answers("sign", x.sign(a));
        answers("count", x.count(a));
        answers("fault", x.fault());
        answers("bestFold", x.bestFold());
        answers("fewestFolds", x.fewestFolds());
        answers("fold", x.fold(a));
        answers("press", x.press(a));
        answers("unfold", x.unfold());
        answers("save", x.save(a));
        answers("carryOut", x.carryOut());
        answers("restore", x.restore(a));
        answers("stand", x.stand(a));
        answers("undo", x.undo());
        answers("write", x.write());
        answers("wipe", x.wipe());
    }

    private static void two(FoldedBench x, int a, int b) {
        answers("of", x.of(a, b));
        answers("ofSeat", x.ofSeat(a, b));
        answers("column", x.column(a, b));
        answers("ifFolded", x.ifFolded(a, b));
        answers("set", x.set(a, b));
        answers("swap", x.swap(a, b));
        answers("sit", x.sit(a, b));
    }

    private static void answers(String call, int answer) {
        Due.holds(call + " answered " + answer, answer >= FoldedBench.NONE);
    }
}
