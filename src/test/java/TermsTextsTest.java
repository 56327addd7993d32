/** Terms, Texts. */
public final class TermsTextsTest {
    private static final int NONE = FoldedBench.NONE;
    private static final String DIGITS = "0123456789";
    private static final String KINDS = "csuxfo";

    /** What has been read; what can stand next; and "." if the text may end there. */
    private static final String[][] READ = {
        {"", KINDS, ""}, {"c", ";", "."}, {"o", ";", "."}, {"c;", KINDS, ""}, {"o;c;", KINDS, ""},
        {"s", DIGITS, ""}, {"s0", "@", ""}, {"s1", DIGITS + "@", ""}, {"s9", DIGITS + "@", ""}, {"s10", "@", ""},
        {"s99", "@", ""}, {"s0@", DIGITS, ""}, {"s10@", DIGITS, ""}, {"s0@0", ";", "."}, {"s0@1", DIGITS + ";", "."},
        {"s10@9", DIGITS + ";", "."}, {"s0@10", ";", "."}, {"s99@99", ";", "."}, {"s1@2;", KINDS, ""},
        {"u", DIGITS, ""}, {"u0", ";", "."}, {"u1", DIGITS + ";", "."}, {"u9", DIGITS + ";", "."}, {"u10", ";", "."},
        {"u99", ";", "."}, {"u3;", KINDS, ""},
        {"x", DIGITS, ""}, {"x0", "~", ""}, {"x1", DIGITS + "~", ""}, {"x9", DIGITS + "~", ""}, {"x10", "~", ""},
        {"x99", "~", ""}, {"x0~", DIGITS, ""}, {"x99~", DIGITS, ""}, {"x0~0", "+-;", "."},
        {"x0~1", DIGITS + "+-;", "."}, {"x10~9", DIGITS + "+-;", "."}, {"x0~10", "+-;", "."}, {"x99~99", "+-;", "."},
        {"x0~0+", ";", "."}, {"x0~0-", ";", "."}, {"x1~12+", ";", "."}, {"x12~1-", ";", "."}, {"x1~2;", KINDS, ""},
        {"x1~2+;", KINDS, ""}, {"x1~2-;", KINDS, ""},
        {"f", DIGITS, ""}, {"f0", ";", "."}, {"f1", DIGITS + ";", "."}, {"f9", DIGITS + ";", "."}, {"f10", ";", "."},
        {"f99", ";", "."}, {"f4;", KINDS, ""}, {"c;s1@1;u1;x1~2+;f1;o;x1~2", DIGITS + "+-;", "."},
    };

    private static FoldedBench x = new FoldedBench();
    private static int asked = 0;

    public static void main(String[] args) {
        Due.about("Terms, texts");
        Due.test("The pad is a text of at most 80 characters", TermsTextsTest::eightyCharacters);
        Due.test("its columns with \"/\" between two: none around one column", TermsTextsTest::columnsWritten);
        Due.test("its seats, from below, with \".\" between two: none in a stack of one", TermsTextsTest::seatsWritten);
        Due.test("each as its number: of one digit up to 9, of two from 10", TermsTextsTest::numbersWritten);
        Due.test("text = order { \";\" order }: one order, or many", TermsTextsTest::manyOrders);
        Due.test("order = \"c\" | .. | \"o\": these, and no others", TermsTextsTest::kindsOfOrders);
        Due.test("[ \"+\" | \"-\" ]: one of them, or neither", TermsTextsTest::plusOrMinus);
        Due.test("A number is 0 to 99", TermsTextsTest::everyNumber);
        Due.test("without leading zeros", TermsTextsTest::leadingZeros);
        Due.test("the first character that cannot stand at its place", TermsTextsTest::everyNextCharacter);
        Due.test("read from left to right: what comes behind the first one tells nothing",
            TermsTextsTest::firstOfSeveral);
        Due.test("(also of a digit by which a number would be above 99)", TermsTextsTest::thirdDigit);
        Due.test("if there is none and the text ends too early, it is the length of the text",
            TermsTextsTest::tooEarly);
        Due.test("(also if it is empty)", TermsTextsTest::empty);
        Due.test("the index of the last place of a full pad, and its length", TermsTextsTest::fullPads);
        Due.end();
    }

    private static void isFault(String text, int due) {
        Due.is("fault of \"" + text + "\"", faultOf(text), due);
    }

    /** A bench lasts for so many calls only. */
    private static int faultOf(String text) {
        asked++;
        if (asked % 16 == 0) {
            x = new FoldedBench();
        }
        return Bench.faultOf(x, text);
    }

    private static void eightyCharacters() {
        FoldedBench y = new FoldedBench();
        for (int length = 1; length <= 80; length++) {
            Due.is("put()", y.put('c'), length);
        }
        Due.is("an 81st", y.put('c'), FoldedBench.TOO_MANY);
        Due.is("the length", y.count(11), 80);
        Due.is("the last one", y.sign(79), 'c');
        Due.is("beyond", y.sign(80), FoldedBench.NO_SUCH);
    }

    private static void columnsWritten() {
        Due.is("two columns", Bench.lies(Bench.ofSeats(2)), "0/1");
        Due.is("one column", Bench.lies(Bench.foldedTimes(Bench.ofSeats(2), 1)), "0.1");
        Due.is("two columns", Bench.lies(Bench.pressed(Bench.ofSeats(16), 8, 4, 2)),
            "5.10.13.2.1.14.9.6/4.11.12.3.0.15.8.7");
    }

    private static void seatsWritten() {
        Due.is("stacks of one", Bench.lies(new FoldedBench()), "0/1/2/3/4/5/6/7");
        Due.is("a stack of two, and of one", Bench.lies(Bench.pressed(Bench.ofSeats(3), 1)), "0.1/2");
        Due.is("a stack of three", Bench.lies(Bench.pressed(Bench.ofSeats(3), 2, 1)), "1.2.0");
    }

    private static void numbersWritten() {
        Due.is("9 is the last", Bench.lies(Bench.ofSeats(10)), "0/1/2/3/4/5/6/7/8/9");
        Due.is("10 is the last", Bench.lies(Bench.ofSeats(11)), "0/1/2/3/4/5/6/7/8/9/10");
        Due.is("15 is the last", Bench.lies(Bench.pressed(Bench.ofSeats(16), 8)),
            "7.8/6.9/5.10/4.11/3.12/2.13/1.14/0.15");
    }

    private static void manyOrders() {
        isFault("c", NONE);
        isFault("c;o", NONE);
        isFault("s0@3;u0;x1~2+;x1~2-;x1~2;f4;o;c", NONE);
        isFault("c;".repeat(39) + "c", NONE);
        isFault(";c", 0);
        isFault("c;;c", 2);
        isFault("cc", 1);
        isFault("c,c", 1);
    }

    private static void kindsOfOrders() {
        for (String order : new String[] {"c", "s0@0", "u0", "x0~0", "x0~0+", "x0~0-", "f0", "o"}) {
            isFault(order, NONE);
        }
        for (char code = 33; code <= 126; code++) {
            if (KINDS.indexOf(code) < 0) {
                isFault("" + code, 0);
            }
        }
    }

    private static void plusOrMinus() {
        isFault("x1~2", NONE);
        isFault("x1~2+", NONE);
        isFault("x1~2-", NONE);
        isFault("x1~2++", 5);
        isFault("x1~2+-", 5);
        isFault("x1~2--", 5);
        isFault("x1~+", 3);
        isFault("x1+", 2);
        isFault("s1@2+", 4);
        isFault("u1-", 2);
    }

    private static void everyNumber() {
        for (int number = 0; number <= 99; number++) {
            isFault("s" + number + "@0", NONE);
            isFault("s0@" + number, NONE);
            isFault("u" + number, NONE);
            isFault("x" + number + "~0", NONE);
            isFault("x0~" + number + "-", NONE);
            isFault("f" + number, NONE);
        }
    }

    private static void leadingZeros() {
        for (int digit = 0; digit <= 9; digit++) {
            isFault("s0" + digit + "@0", 2);
            isFault("s0@0" + digit, 4);
            isFault("u0" + digit, 2);
            isFault("x0" + digit + "~0", 2);
            isFault("x0~0" + digit, 4);
            isFault("f0" + digit, 2);
        }
    }

    /** Behind each beginning each character is tried. */
    private static void everyNextCharacter() {
        for (String[] read : READ) {
            for (char code = 33; code <= 126; code++) {
                String text = read[0] + code;
                if (read[1].indexOf(code) < 0) {
                    isFault(text, read[0].length());
                } else {
                    Due.holds("no fault there: \"" + text + "\"", faultOf(text) != read[0].length());
                }
            }
        }
    }

    private static void firstOfSeveral() {
        isFault("a;a", 0);
        isFault("c;a;a;", 2);
        isFault("f1;f100;f01", 6);
        isFault("f01;f100", 2);
        isFault("o!c;", 1);
    }

    private static void thirdDigit() {
        for (int digit = 0; digit <= 9; digit++) {
            isFault("s10" + digit + "@0", 3);
            isFault("s0@99" + digit, 5);
            isFault("u99" + digit, 3);
            isFault("x12" + digit + "~0", 3);
            isFault("x0~10" + digit + "+", 5);
            isFault("f10" + digit, 3);
        }
        isFault("f99", NONE);
        isFault("f9999999999999999999", 3);
    }

    private static void tooEarly() {
        for (String[] read : READ) {
            isFault(read[0], read[2].isEmpty() ? read[0].length() : NONE);
        }
    }

    private static void empty() {
        Due.is("a new pad", new FoldedBench().fault(), 0);
        FoldedBench y = new FoldedBench();
        y.put('c');
        y.wipe();
        Due.is("wiped", y.fault(), 0);
        y.put('c');
        y.carryOut();
        Due.is("carried out", y.fault(), 0);
    }

    private static void fullPads() {
        isFault("c;".repeat(40), 80);
        isFault("c;".repeat(39) + "f1", NONE);
        isFault("c;".repeat(39) + "u", 79);
        isFault("c;".repeat(39) + "fc", 79);
        isFault("c;".repeat(39) + "cc", 79);
        isFault("c;".repeat(39) + "x1", 80);
        isFault("c;".repeat(38) + "x1~2", NONE);
        isFault("c;".repeat(38) + "s1@a", 79);
        isFault("c;".repeat(37) + "s10@10", NONE);
        isFault("c;".repeat(37) + "s1@100", 79);
        isFault("c;".repeat(37) + "x1~10+", NONE);
        isFault("x".repeat(80), 1);
    }
}
