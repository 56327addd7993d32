/** Every text of up to four of the signs that orders are made of: what it does has to be what the Model does. */
public final class SmallTextsTest {
    private static final String SIGNS = "csuxfo019@~+-;";
    // So many that no bench is called more than 512 times.
    private static final int TEXTS_OF_A_BENCH = 20;

    private static FoldedBench x;
    private static Model model;
    private static int texts = 0;
    private static boolean alike = true;

    public static void main(String[] args) {
        Due.about("Small texts");
        Due.test("each text of up to four signs: its fault, what it carries out", () -> allTexts("", 4, 0));
        Due.test("each text of up to four signs: on a folded bench", () -> allTexts("", 4, 4));
        Due.test("each three signs behind two orders", () -> allTexts("x1~0+;c;", 3, 0));
        Due.test("each three signs behind a number of two digits", () -> allTexts("s1@10", 3, 0));
        Due.end();
    }

    private static void allTexts(String begun, int further, int gap) {
        texts = 0;
        goOn(begun, further, gap);
        Due.holds("all answers", alike);
    }

    private static void goOn(String begun, int further, int gap) {
        askOf(begun, gap);
        for (int i = 0; i < SIGNS.length() && further > 0 && alike; i++) {
            goOn(begun + SIGNS.charAt(i), further - 1, gap);
        }
    }

    private static void askOf(String text, int gap) {
        if (texts % TEXTS_OF_A_BENCH == 0) {
            make(gap);
        }
        texts++;
        for (int i = 0; i < text.length(); i += 8) {
            long characters = Bench.packed(text.substring(i, Math.min(text.length(), i + 8)));
            same(text, "put()", x.put(characters), model.put(characters));
        }
        same(text, "fault()", x.fault(), model.fault());
        int carried = x.carryOut();
        same(text, "carryOut()", carried, model.carryOut());
        if (carried >= 0) {
            for (int what = 0; what <= 12; what++) {
                same(text, "count(" + what + ")", x.count(what), model.count(what));
            }
            same(text, "undo()", x.undo(), model.undo());
        }
        same(text, "wipe()", x.wipe(), model.wipe());
    }

    /** A bench with a cousin who stands, and one who sits; folded, if there is a gap for that. */
    private static void make(int gap) {
        x = new FoldedBench();
        model = new Model();
        same("", "cousin()", x.cousin(), model.cousin());
        same("", "cousin()", x.cousin(), model.cousin());
        same("", "sit()", x.sit(1, 1), model.sit(1, 1));
        if (gap > 0) {
            same("", "press()", x.press(gap), model.press(gap));
        }
    }

    private static void same(String text, String call, int answer, int due) {
        if (answer != due && alike) {
            alike = false;
            Due.is("\"" + text + "\": " + call, answer, due);
        }
    }
}
