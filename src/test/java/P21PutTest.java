/** Promise 21: put. */
public final class P21PutTest {
    private static final int BAD_VALUE = FoldedBench.BAD_VALUE;
    private static final int TOO_MANY = FoldedBench.TOO_MANY;

    public static void main(String[] args) {
        Due.about("Promise 21, put");
        Due.test("Appends characters to the pad", P21PutTest::appended);
        Due.test("its lowest 8 bits are the last character, the next 8 bits the one before, and so on",
            P21PutTest::lastIsLowest);
        Due.test("1 to 8 characters", P21PutTest::oneToEight);
        Due.test("Returns the length of the pad then: 80 at most", P21PutTest::lengths);
        Due.test("texts are no changes", P21PutTest::noChange);
        Due.test("BAD_VALUE if there is no character", P21PutTest::noCharacter);
        Due.test("BAD_VALUE if a code is not 33 to 126: at each place", P21PutTest::codes);
        Due.test("8 bits that are 0 mean that there are no more characters", P21PutTest::zeroEnds);
        Due.test("BAD_VALUE if a bit above 8 bits that are 0 is not 0: each bit", P21PutTest::bitsAboveZero);
        Due.test("TOO_MANY if the pad would be longer than 80", P21PutTest::tooLong);
        Due.test("which comes first: BAD_VALUE, TOO_MANY", P21PutTest::firstError);
        Due.end();
    }

    private static void appended() {
        FoldedBench x = new FoldedBench();
        Due.is("one", x.put('c'), 1);
        Due.is("three", x.put(0x666F6FL), 4);
        Due.is("the pad", Bench.pad(x), "cfoo");
        x.write();
        Due.is("behind what is written", x.put(';'), 16);
        Due.is("the pad", Bench.pad(x), "0/1/2/3/4/5/6/7;");
    }

    private static void lastIsLowest() {
        FoldedBench x = new FoldedBench();
        x.put(0x4142434445464748L);
        Due.is("the pad", Bench.pad(x), "ABCDEFGH");
        x.put(0x7E21L);
        Due.is("the pad", Bench.pad(x), "ABCDEFGH~!");
    }

    private static void oneToEight() {
        String text = "~!abc~!~";
        for (int length = 1; length <= 8; length++) {
            FoldedBench x = new FoldedBench();
            Due.is("put() of " + length, x.put(Bench.packed(text.substring(0, length))), length);
            Due.is("the pad", Bench.pad(x), text.substring(0, length));
        }
    }

    private static void lengths() {
        FoldedBench x = new FoldedBench();
        for (int i = 1; i <= 9; i++) {
            Due.is("put()", x.put(Bench.packed("abcdefgh")), 8 * i);
        }
        Due.is("79", x.put(Bench.packed("1234567")), 79);
        Due.is("80", x.put('z'), 80);
        Due.is("the pad", Bench.pad(x), "abcdefgh".repeat(9) + "1234567z");
        x = new FoldedBench();
        Bench.put(x, "a".repeat(72));
        Due.is("80, by eight", x.put(Bench.packed("abcdefgh")), 80);
    }

    private static void noChange() {
        FoldedBench x = Bench.seated(0);
        Bench.put(x, "c;c;c;c");
        Due.is("changes", x.count(12), 2);
        Due.is("undo()", x.undo(), 1);
        Due.is("the pad stays", Bench.pad(x), "c;c;c;c");
    }

    private static void noCharacter() {
        Bench.refuses("put(0)", BAD_VALUE, Bench::lived, x -> x.put(0));
        Bench.refuses("put(0) into an empty pad", BAD_VALUE, () -> Bench.seated(0), x -> x.put(0));
    }

    /** Each code alone, as the last of two, as the first of eight, and as one between. */
    private static void codes() {
        long eight = 0x6363636363636363L;
        for (int code = 0; code <= 255; code++) {
            boolean good = code >= 33 && code <= 126;
            FoldedBench x = new FoldedBench();
            Due.is("code " + code + " alone", x.put(code), good ? 1 : BAD_VALUE);
            Due.is("the length", x.count(11), good ? 1 : 0);
            x = new FoldedBench();
            Due.is("code " + code + " as the last one", x.put('c' << 8 | code), good ? 2 : BAD_VALUE);
            x = new FoldedBench();
            long first = eight & ~(255L << 56) | (long) code << 56;
            Due.is("code " + code + " as the first of eight", x.put(first), good ? 8 : code == 0 ? 7 : BAD_VALUE);
            x = new FoldedBench();
            long between = eight & ~(255L << 32) | (long) code << 32;
            Due.is("code " + code + " as one between", x.put(between), good ? 8 : BAD_VALUE);
        }
        Bench.refuses("code 32", BAD_VALUE, Bench::lived, x -> x.put(32));
        Bench.refuses("code 127", BAD_VALUE, Bench::lived, x -> x.put('c' << 8 | 127));
        Bench.refuses("put(-1)", BAD_VALUE, Bench::lived, x -> x.put(-1));
        Bench.refuses("put(least long)", BAD_VALUE, Bench::lived, x -> x.put(Long.MIN_VALUE));
        Bench.refuses("put(greatest long)", BAD_VALUE, Bench::lived, x -> x.put(Long.MAX_VALUE));
    }

    private static void zeroEnds() {
        FoldedBench x = new FoldedBench();
        Due.is("seven zeros ahead of one", x.put(0x0000000000000063L), 1);
        Due.is("one zero ahead of seven", x.put(0x0063636363636363L), 8);
        Due.is("the last one is 0", x.put(0x6300L), BAD_VALUE);
        Due.is("the last one of eight is 0", x.put(0x6363636363636300L), BAD_VALUE);
        Due.is("the pad", Bench.pad(x), "cccccccc");
    }

    private static void bitsAboveZero() {
        for (int length = 1; length <= 6; length++) {
            long text = Bench.packed("cccccc".substring(0, length));
            for (int bit = 8 * length + 8; bit < 64; bit++) {
                FoldedBench x = new FoldedBench();
                Due.is("bit " + bit + " above " + length, x.put(text | 1L << bit), BAD_VALUE);
                Due.is("a whole code above " + length, x.put(text | (long) 'c' << (bit / 8 * 8)), BAD_VALUE);
                Due.is("nothing is put", x.count(11), 0);
            }
        }
        Bench.refuses("a gap", BAD_VALUE, Bench::lived, x -> x.put('c' << 16 | 'c'));
        Bench.refuses("the highest bit", BAD_VALUE, Bench::lived, x -> x.put(1L << 63 | 'c'));
    }

    private static FoldedBench withPad(int length) {
        FoldedBench x = Bench.seated(0);
        Bench.put(x, "c".repeat(length));
        return x;
    }

    private static void tooLong() {
        for (int length = 1; length <= 8; length++) {
            long text = Bench.packed("~".repeat(length));
            int there = 80 - length;
            Due.is(length + " more", withPad(there).put(text), 80);
            Bench.refuses(length + " more, one too many", TOO_MANY, () -> withPad(there + 1), x -> x.put(text));
        }
        Bench.refuses("eight more for a full pad", TOO_MANY, () -> withPad(80), x -> x.put(Bench.packed("~~~~~~~~")));
        FoldedBench x = withPad(79);
        Due.is("two more", x.put(Bench.packed("yz")), TOO_MANY);
        Due.is("one more, then", x.put('z'), 80);
    }

    private static void firstError() {
        FoldedBench x = withPad(80);
        Due.is("no character", x.put(0), BAD_VALUE);
        Due.is("a wrong code", x.put(32), BAD_VALUE);
        Due.is("a wrong code behind a good one", x.put('c' << 8 | 127), BAD_VALUE);
        Due.is("a gap", x.put('c' << 16 | 'c'), BAD_VALUE);
        Due.is("a good one", x.put('c'), TOO_MANY);
    }
}
