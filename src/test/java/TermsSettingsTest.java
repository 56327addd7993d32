/** Terms, Settings: "(In parentheses: range; first value.)" */
public final class TermsSettingsTest {
    public static void main(String[] args) {
        Due.about("Terms, settings");
        Due.test("SEATS: the first value is 8", () -> Due.is("SEATS", new FoldedBench().count(8), 8));
        Due.test("NEAR: the first value is 1", () -> Due.is("NEAR", new FoldedBench().count(9), 1));
        Due.test("FACE: the first value is 3", () -> Due.is("FACE", new FoldedBench().count(10), 3));
        Due.test("SEATS: 2 is the least", () -> least(FoldedBench.SEATS, 8, 2));
        Due.test("SEATS: 16 is the greatest", () -> greatest(FoldedBench.SEATS, 8, 16));
        Due.test("NEAR: 0 is the least", () -> least(FoldedBench.NEAR, 1, 0));
        Due.test("NEAR: 5 is the greatest", () -> greatest(FoldedBench.NEAR, 1, 5));
        Due.test("FACE: 0 is the least", () -> least(FoldedBench.FACE, 3, 0));
        Due.test("FACE: 9 is the greatest", () -> greatest(FoldedBench.FACE, 3, 9));
        Due.test("SEATS: every value between, and none beyond", () -> all(FoldedBench.SEATS, 2, 16));
        Due.test("NEAR: every value between, and none beyond", () -> all(FoldedBench.NEAR, 0, 5));
        Due.test("FACE: every value between, and none beyond", () -> all(FoldedBench.FACE, 0, 9));
        Due.end();
    }

    private static void least(int setting, int first, int lowest) {
        FoldedBench x = new FoldedBench();
        Due.is("too small", x.set(setting, lowest - 1), FoldedBench.BAD_VALUE);
        Due.is("still", x.count(8 + setting), first);
        Due.is("the least", x.set(setting, lowest), first);
        Due.is("then", x.count(8 + setting), lowest);
    }

    private static void greatest(int setting, int first, int highest) {
        FoldedBench x = new FoldedBench();
        Due.is("too large", x.set(setting, highest + 1), FoldedBench.BAD_VALUE);
        Due.is("still", x.count(8 + setting), first);
        Due.is("the greatest", x.set(setting, highest), first);
        Due.is("then", x.count(8 + setting), highest);
    }

    private static void all(int setting, int lowest, int highest) {
        FoldedBench x = new FoldedBench();
        int previous = x.count(8 + setting);
        for (int value = lowest; value <= highest; value++) {
            Due.is("set(" + setting + ", " + value + ")", x.set(setting, value), previous);
            Due.is("then", x.count(8 + setting), value);
            previous = value;
        }
        for (int value : Bench.outside(lowest, highest)) {
            Due.is("set(" + setting + ", " + value + ")", x.set(setting, value), FoldedBench.BAD_VALUE);
        }
        Due.is("still", x.count(8 + setting), highest);
        for (int other = 0; other < 3; other++) {
            if (other != setting) {
                Due.is("setting " + other, x.count(8 + other), new FoldedBench().count(8 + other));
            }
        }
    }
}
