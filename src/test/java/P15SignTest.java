/** Promise 15: sign. */
public final class P15SignTest {
    private static final int NO_SUCH = FoldedBench.NO_SUCH;

    public static void main(String[] args) {
        Due.about("Promise 15, sign");
        Due.test("Returns the code of a character of the pad: 33 to 126", P15SignTest::codes);
        Due.test("NO_SUCH if there is no such place", P15SignTest::noSuchPlace);
        Due.test("no such place in an empty pad", P15SignTest::emptyPad);
        Due.test("the last place of a full pad", P15SignTest::fullPad);
        Due.test("no such place any more when the pad is shorter", P15SignTest::shorterPad);
        Due.end();
    }

    private static void codes() {
        for (int first = 33; first <= 126; first += 47) {
            FoldedBench x = new FoldedBench();
            for (int code = first; code < first + 47; code++) {
                x.put(code);
            }
            for (int place = 0; place < 47; place++) {
                Due.is("sign(" + place + ")", x.sign(place), first + place);
            }
        }
    }

    private static void noSuchPlace() {
        FoldedBench x = new FoldedBench();
        Bench.put(x, "!a~");
        for (int place : Bench.outside(0, 2)) {
            Due.is("sign(" + place + ")", x.sign(place), NO_SUCH);
        }
        Due.is("the first", x.sign(0), '!');
        Due.is("the last", x.sign(2), '~');
        Bench.refuses("sign(4)", NO_SUCH, Bench::lived, y -> y.sign(4));
        Bench.refuses("sign(-1)", NO_SUCH, Bench::lived, y -> y.sign(-1));
    }

    private static void emptyPad() {
        Due.is("sign(0)", new FoldedBench().sign(0), NO_SUCH);
        Due.is("sign(-1)", new FoldedBench().sign(-1), NO_SUCH);
    }

    private static void fullPad() {
        FoldedBench x = new FoldedBench();
        Bench.put(x, "abcdefgh".repeat(10));
        Due.is("sign(0)", x.sign(0), 'a');
        Due.is("sign(79)", x.sign(79), 'h');
        for (int place : Bench.outside(0, 79)) {
            Due.is("sign(" + place + ")", x.sign(place), NO_SUCH);
        }
    }

    private static void shorterPad() {
        FoldedBench x = new FoldedBench();
        Bench.put(x, "abcdefgh".repeat(10));
        x.write();
        Due.is("sign(14)", x.sign(14), '7');
        Due.is("sign(15)", x.sign(15), NO_SUCH);
        x.wipe();
        Due.is("wiped", x.sign(0), NO_SUCH);
        Bench.carryOut(x, "c;o");
        Due.is("carried out", x.sign(0), NO_SUCH);
        x.put('c');
        Due.is("sign(0)", x.sign(0), 'c');
        Due.is("sign(1)", x.sign(1), NO_SUCH);
    }
}
