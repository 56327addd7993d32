import java.util.Random;
import java.util.Set;
import java.util.TreeSet;

/** Random runs, the same ones each time: each answer has to be the Model's. */
public final class RandomRunsTest {
    private static final int RUNS = 600;
    private static final int CALLS = 512;
    private static final int[] ODD = {Integer.MIN_VALUE, Integer.MAX_VALUE, -1, -6, 99, 32, 16, 12, 13, 6, 17};
    private static final String SIGNS = "csuxfo0123456789@~+-;;";

    private final Random random;
    private final FoldedBench x = new FoldedBench();
    private final Model model = new Model();
    private final StringBuilder last = new StringBuilder();
    private int seats = 8;

    private RandomRunsTest(int seed) {
        random = new Random(seed);
    }

    /** For each call the errors (and NONE) that it can answer: the runs have to have met them all. */
    private static final String[] MET = {
        "set-2", "set-5", "cousin-4", "sit-1", "sit-5", "sit-6", "stand-1", "stand-5", "swap-1", "swap-2", "swap-5",
        "relate-1", "relate-2", "fold-2", "fold-4", "fold-5", "press-2", "press-4", "unfold-5", "of-1", "of-2", "of-6",
        "ofSeat-1", "ofSeat-2", "ofSeat-6", "column-1", "sign-1", "count-2", "ifFolded-2", "ifFolded-4", "bestFold-6",
        "bestSwap-2", "fewestFolds-6", "fewestFolds0", "fewestFolds1", "fewestFolds2", "fewestFolds3", "fewestFolds4",
        "fewestFolds5", "put-2", "put-4", "fault-6", "carryOut-3", "undo-5", "save-2", "restore-2", "restore-5",
    };
    private static final Set<String> met = new TreeSet<>();

    public static void main(String[] args) {
        Due.about("Random runs");
        Due.test("all answers are the model's", RandomRunsTest::areAlike);
        Due.test("they meet each error of each call", RandomRunsTest::meetAll);
        Due.end();
    }

    private static void areAlike() {
        boolean alike = true;
        for (int seed = 0; seed < RUNS && alike; seed++) {
            alike = new RandomRunsTest(seed).isAlike(seed);
        }
        Due.holds("all answers", alike);
    }

    private static void meetAll() {
        for (String answer : MET) {
            Due.holds("met " + answer, met.contains(answer));
        }
    }

    private boolean isAlike(int seed) {
        int prepared = prepare(seed);
        for (int call = prepared; call < CALLS; call++) {
            last.setLength(0);
            int[] answers = anyCall();
            String name = last.substring(0, last.indexOf("("));
            if (answers[0] < 0 || name.equals("fewestFolds")) {
                met.add(name + answers[0]);
            }
            if (answers[0] != answers[1]) {
                Due.is("run " + seed + ", call " + call + ", " + last, answers[0], answers[1]);
                return false;
            }
        }
        return true;
    }

    /** Many runs start with a bench full of cousins, most of them with feuds. */
    private int prepare(int seed) {
        int calls = 0;
        seats = seed % 3 == 0 ? 8 : 2 + seed % 15;
        calls += same(x.set(0, seats), model.set(0, seats));
        int cousins = seed % 4 == 0 ? 0 : random.nextInt(13);
        for (int i = 0; i < cousins; i++) {
            calls += same(x.cousin(), model.cousin());
            int seat = random.nextInt(seats);
            calls += same(x.sit(i, seat), model.sit(i, seat));
        }
        int feuds = cousins < 2 ? 0 : random.nextInt(seed % 2 == 0 ? 6 : 30);
        for (int i = 0; i < feuds; i++) {
            int one = random.nextInt(cousins);
            int other = random.nextInt(cousins);
            int how = random.nextInt(4) == 0 ? 1 : -1;
            calls += same(x.relate(one, other, how), model.relate(one, other, how));
        }
        return calls;
    }

    private int same(int answer, int due) {
        Due.is("while preparing", answer, due);
        return 1;
    }

    private int any(int many) {
        if (random.nextInt(40) == 0) {
            return ODD[random.nextInt(ODD.length)];
        }
        return random.nextInt(many + 1) - random.nextInt(40) / 39;
    }

    private int cousin() {
        int cousins = model.count(0);
        return any(Math.max(1, cousins - (random.nextInt(8) == 0 ? 0 : 1)));
    }

    private int seat() {
        return any(seats - (random.nextInt(8) == 0 ? 0 : 1));
    }

    private int gap() {
        return any(random.nextInt(3) == 0 ? seats : 5);
    }

    private int[] told(String name, int[] arguments, int answer, int due) {
        last.append(name).append('(');
        for (int i = 0; i < arguments.length; i++) {
            last.append(i > 0 ? ", " : "").append(arguments[i]);
        }
        last.append(')');
        return new int[] {answer, due};
    }

    private int[] anyCall() {
        seats = model.count(8);
        int kind = random.nextInt(100);
        if (kind < 45) {
            return anyChange();
        }
        if (kind < 65) {
            return anyQuestion();
        }
        if (kind < 80) {
            return anyWhatIf();
        }
        return kind < 92 ? anyText() : anyHistory();
    }

    private int[] anyChange() {
        int a;
        int b;
        switch (random.nextInt(16)) {
            case 0:
                a = any(3);
                b = random.nextInt(2) == 0 ? any(17) : any(6);
                return told("set", new int[] {a, b}, x.set(a, b), model.set(a, b));
            case 1:
                return told("cousin", new int[0], x.cousin(), model.cousin());
            case 2:
            case 3:
                a = cousin();
                b = seat();
                return told("sit", new int[] {a, b}, x.sit(a, b), model.sit(a, b));
            case 4:
                a = cousin();
                return told("stand", new int[] {a}, x.stand(a), model.stand(a));
            case 5:
                a = seat();
                b = seat();
                return told("swap", new int[] {a, b}, x.swap(a, b), model.swap(a, b));
            case 6:
            case 7:
            case 8:
                a = cousin();
                b = cousin();
                int how = any(3) - 1;
                return told("relate", new int[] {a, b, how}, x.relate(a, b, how), model.relate(a, b, how));
            case 9:
            case 10:
            case 11:
                a = gap();
                return told("fold", new int[] {a}, x.fold(a), model.fold(a));
            case 12:
                a = gap();
                return told("press", new int[] {a}, x.press(a), model.press(a));
            case 13:
            case 14:
                return told("unfold", new int[0], x.unfold(), model.unfold());
            default:
                return told("write", new int[0], x.write(), model.write());
        }
    }

    private int[] anyQuestion() {
        int a;
        int b;
        switch (random.nextInt(5)) {
            case 0:
                a = cousin();
                b = any(6);
                return told("of", new int[] {a, b}, x.of(a, b), model.of(a, b));
            case 1:
                a = seat();
                b = any(5);
                return told("ofSeat", new int[] {a, b}, x.ofSeat(a, b), model.ofSeat(a, b));
            case 2:
                a = any(seats);
                b = any(random.nextInt(2) == 0 ? 1 : 17);
                return told("column", new int[] {a, b}, x.column(a, b), model.column(a, b));
            case 3:
                a = any(random.nextInt(2) == 0 ? 80 : 6);
                return told("sign", new int[] {a}, x.sign(a), model.sign(a));
            default:
                a = any(13);
                return told("count", new int[] {a}, x.count(a), model.count(a));
        }
    }

    private int[] anyWhatIf() {
        int a;
        switch (random.nextInt(6)) {
            case 0:
            case 1:
                a = gap();
                int b = any(5);
                return told("ifFolded", new int[] {a, b}, x.ifFolded(a, b), model.ifFolded(a, b));
            case 2:
                return told("bestFold", new int[0], x.bestFold(), model.bestFold());
            case 3:
            case 4:
                a = any(3);
                return told("bestSwap", new int[] {a}, x.bestSwap(a), model.bestSwap(a));
            default:
                return told("fewestFolds", new int[0], x.fewestFolds(), model.fewestFolds());
        }
    }

    private int[] anyText() {
        switch (random.nextInt(8)) {
            case 0:
                return told("wipe", new int[0], x.wipe(), model.wipe());
            case 1:
                return told("fault", new int[0], x.fault(), model.fault());
            case 2:
                return told("carryOut", new int[0], x.carryOut(), model.carryOut());
            case 3:
                long odd = random.nextLong() >>> random.nextInt(64);
                return told("put", new int[0], x.put(odd), model.put(odd));
            default:
                long text = Bench.packed(random.nextInt(5) == 0 ? anySigns() : anyOrder());
                return told("put", new int[0], x.put(text), model.put(text));
        }
    }

    private String anySigns() {
        StringBuilder text = new StringBuilder();
        int length = 1 + random.nextInt(8);
        for (int i = 0; i < length; i++) {
            text.append(SIGNS.charAt(random.nextInt(SIGNS.length())));
        }
        return text.toString();
    }

    /** At most 8 characters: an order of small numbers, with a ";" ahead if something stands on the pad. */
    private String anyOrder() {
        int cousin = random.nextInt(Math.max(1, model.count(0)));
        int other = random.nextInt(12);
        String ahead = model.count(11) == 0 ? "" : ";";
        switch (random.nextInt(6)) {
            case 0: return ahead + "c";
            case 1: return ahead + "s" + cousin + "@" + random.nextInt(seats);
            case 2: return ahead + "u" + cousin;
            case 3: return ahead + "x" + cousin + "~" + other + new String[] {"", "+", "-"}[random.nextInt(3)];
            case 4: return ahead + "f" + (1 + random.nextInt(Math.max(1, model.count(2))));
            default: return ahead + "o";
        }
    }

    private int[] anyHistory() {
        int a = any(2);
        switch (random.nextInt(3)) {
            case 0: return told("undo", new int[0], x.undo(), model.undo());
            case 1: return told("save", new int[] {a}, x.save(a), model.save(a));
            default: return told("restore", new int[] {a}, x.restore(a), model.restore(a));
        }
    }
}
