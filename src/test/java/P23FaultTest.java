/** Promise 23: fault. */
public final class P23FaultTest {
    private static FoldedBench x = new FoldedBench();
    private static int asked = 0;

    public static void main(String[] args) {
        withoutFault();
        tooEarly();
        wrongCharacters();
        numbers();
        wholePads();
        Due.end();
    }

    /** A bench lasts for so many calls only. */
    private static void is(String text, int due) {
        asked++;
        if (asked % 16 == 0) {
            x = new FoldedBench();
        }
        Due.is("fault of \"" + text + "\"", Bench.faultOf(x, text), due);
        Due.is("the length", x.count(11), text.length());
        Due.is("no change", x.count(12), 0);
    }

    private static void withoutFault() {
        String[] texts = {
            "c", "o", "s0@0", "s10@99", "u0", "u99", "x0~0", "x1~2+", "x1~2-", "x12~34", "x99~99-", "f0", "f7", "f15",
            "c;c", "o;o;o", "f1;f2;o", "s0@3;u0;x1~2+;f4;o;c", "x1~2;c", "x10~20-;x1~2",
        };
        for (String text : texts) {
            is(text, FoldedBench.NONE);
        }
    }

    private static void tooEarly() {
        String[] texts = {"", "s", "s0", "s0@", "s10", "s10@", "u", "x", "x1", "x1~", "x12~", "f", "c;", "c;s0@0;", "c;u"};
        for (String text : texts) {
            is(text, text.length());
        }
    }

    private static void wrongCharacters() {
        is("a", 0);
        is(";", 0);
        is("0", 0);
        is("C", 0);
        is("+", 0);
        is("c;;c", 2);
        is("cc", 1);
        is("co", 1);
        is("c0", 1);
        is("o1", 1);
        is("sa", 1);
        is("s@1", 1);
        is("s1~2", 2);
        is("s1;", 2);
        is("s1@a", 3);
        is("s1@2@", 4);
        is("s1@2+", 4);
        is("s1@-1", 3);
        is("u1@", 2);
        is("u-1", 1);
        is("u1c", 2);
        is("u/", 1);
        is("u:", 1);
        is("x1@2", 2);
        is("x~", 1);
        is("x1~+", 3);
        is("x1~2++", 5);
        is("x1~2+-", 5);
        is("x1~2-1", 5);
        is("x1~2c", 4);
        is("x1~2;+", 5);
        is("f;", 1);
        is("f1+", 2);
        is("c;f1;a;c", 5);
        is("c,c", 1);
    }

    private static void numbers() {
        is("f00", 2);
        is("f01", 2);
        is("f100", 3);
        is("f999", 3);
        is("u009", 2);
        is("s00@0", 2);
        is("s0@00", 4);
        is("s123@0", 3);
        is("s1@123", 5);
        is("x100~1", 3);
        is("x1~100+", 5);
        is("x1~05", 4);
        is("x05~1", 2);
    }

    private static void wholePads() {
        is("c;".repeat(40), 80);
        is("c;".repeat(39) + "f1", FoldedBench.NONE);
        is("c;".repeat(39) + "fc", 79);
        is("c;".repeat(38) + "x1~2", FoldedBench.NONE);
        is("c;".repeat(38) + "x1~+", 79);
        is("c;".repeat(37) + "s10@10", FoldedBench.NONE);
        is("c;".repeat(37) + "s1@100", 79);
        x = new FoldedBench();
        x.write();
        Due.is("fault of how it lies", x.fault(), 0);
    }
}
