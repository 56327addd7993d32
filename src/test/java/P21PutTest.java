/** Promise 21: put. */
public final class P21PutTest {
    public static void main(String[] args) {
        characters();
        wrongCharacters();
        lengths();
        Due.end();
    }

    private static void characters() {
        FoldedBench x = new FoldedBench();
        Due.is("one", x.put('c'), 1);
        Due.is("three", x.put(0x666F6FL), 4);
        Due.is("the lowest code", x.put(33), 5);
        Due.is("the highest code", x.put(126), 6);
        Due.is("eight", x.put(0x7E21787A30393B7EL), 14);
        Due.is("the pad", Bench.pad(x), "cfoo!~~!xz09;~");
        Due.is("no change", x.count(12), 0);
    }

    private static void wrongCharacters() {
        FoldedBench x = new FoldedBench();
        x.put('c');
        long[] wrong = {
            0, 32, 127, 255, -1, Long.MIN_VALUE, Long.MAX_VALUE, 10,
            'c' << 8, 'c' << 8 | 32, 32 << 8 | 'c', 127 << 8 | 'c', 200 << 8 | 'c',
            'c' << 16 | 'c', 1L << 56 | 'c', 1L << 63 | 'c', 0x6300636363636363L,
            0x2063636363636363L, 0x7F63636363636363L, 0x8063636363636363L, 0xE163636363636363L, 0x6363636363636320L,
        };
        for (long code : wrong) {
            Due.is("put(" + code + ")", x.put(code), FoldedBench.BAD_VALUE);
        }
        Due.is("nothing changes", Bench.pad(x), "c");
    }

    private static void lengths() {
        FoldedBench x = new FoldedBench();
        for (int i = 1; i <= 9; i++) {
            Due.is("put", x.put(Bench.packed("abcdefgh")), 8 * i);
        }
        Due.is("79", x.put(Bench.packed("1234567")), 79);
        Due.is("two more", x.put(Bench.packed("yz")), FoldedBench.TOO_MANY);
        Due.is("eight more", x.put(Bench.packed("abcdefgh")), FoldedBench.TOO_MANY);
        Due.is("wrong ones", x.put(32 << 8 | 'c'), FoldedBench.BAD_VALUE);
        Due.is("80", x.put('z'), 80);
        Due.is("one more", x.put('z'), FoldedBench.TOO_MANY);
        Due.is("none", x.put(0), FoldedBench.BAD_VALUE);
        Due.is("the pad", Bench.pad(x), "abcdefgh".repeat(9) + "1234567z");
    }
}
