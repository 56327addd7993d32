import java.util.Arrays;
import java.util.function.Supplier;
import java.util.function.ToIntFunction;

/** What the tests do again and again with a FoldedBench. */
final class Bench {
    private static final int[] FAR = {Integer.MIN_VALUE, Integer.MIN_VALUE + 1, -256, -6, 255, 256, Integer.MAX_VALUE};

    private Bench() {
    }

    /** A bench with a cousin for each of these seats, sitting there, or standing where it is below 0. */
    static FoldedBench seated(int... seats) {
        return settle(new FoldedBench(), seats);
    }

    /** A bench of so many seats without cousins. */
    static FoldedBench ofSeats(int seats) {
        FoldedBench x = new FoldedBench();
        Due.is("set(SEATS, " + seats + ")", x.set(FoldedBench.SEATS, seats), 8);
        return x;
    }

    /** A bench of so many seats with a cousin on each, whose number is the seat's; 12 at most. */
    static FoldedBench full(int seats) {
        int[] all = new int[seats];
        for (int seat = 0; seat < seats; seat++) {
            all[seat] = seat;
        }
        return settle(ofSeats(seats), all);
    }

    /** A full bench with foes: the first and the second of these, the third and the fourth, and so on. */
    static FoldedBench withFoes(int seats, int... foes) {
        FoldedBench x = full(seats);
        for (int i = 0; i + 1 < foes.length; i += 2) {
            Due.is("relate", x.relate(foes[i], foes[i + 1], -1), 1);
        }
        return x;
    }

    /** Cousins come to a bench without any, and sit down. */
    static FoldedBench settle(FoldedBench x, int... seats) {
        for (int i = 0; i < seats.length; i++) {
            Due.is("cousin()", x.cousin(), i);
            if (seats[i] >= 0) {
                Due.is("sit(" + i + ", " + seats[i] + ")", x.sit(i, seats[i]), FoldedBench.NONE);
            }
        }
        return x;
    }

    /** Presses the bench at each of these gaps, one after the other. */
    static FoldedBench pressed(FoldedBench x, int... gaps) {
        for (int gap : gaps) {
            Due.holds("press(" + gap + ")", x.press(gap) >= 0);
        }
        return x;
    }

    /** Folds the bench at its first gap so many times, which brings no foes together where there are none. */
    static FoldedBench foldedTimes(FoldedBench x, int times) {
        for (int i = 0; i < times; i++) {
            Due.holds("fold(1)", x.fold(1) > 0);
        }
        return x;
    }

    /** Tells all cousins to be foes of one another (-1), friends (1), or neither. */
    static FoldedBench all(FoldedBench x, int how) {
        for (int i = 0; i < x.count(0); i++) {
            for (int j = 0; j < i; j++) {
                Due.holds("relate", x.relate(i, j, how) >= 0);
            }
        }
        return x;
    }

    /**
     * A bench with a past: a full history, both slots saved, a pad, and three cousins on 3, 4 and 0; the first two are
     * foes, the first and the last friends.
     */
    static FoldedBench lived() {
        FoldedBench x = seated(3, 4);
        x.save(0);
        x.cousin();
        x.set(FoldedBench.NEAR, 2);
        x.relate(0, 1, -1);
        x.relate(0, 2, 1);
        x.fold(3);
        x.save(1);
        x.unfold();
        x.sit(2, 0);
        put(x, "c;f2");
        return x;
    }

    /** The same one, folded once. */
    static FoldedBench livedAndFolded() {
        FoldedBench x = lived();
        Due.is("fold(3)", x.fold(3), 5);
        return x;
    }

    /** Values just outside a range, and some far away. */
    static int[] outside(int lowest, int highest) {
        int[] all = new int[FAR.length + 2];
        int many = 0;
        all[many++] = lowest - 1;
        all[many++] = highest + 1;
        for (int value : FAR) {
            if (value < lowest || value > highest) {
                all[many++] = value;
            }
        }
        return Arrays.copyOf(all, many);
    }

    /**
     * Of two benches made alike one is asked what it has to refuse: nothing may tell them apart then, neither at once
     * nor after any number of undo(), nor what the slots hold.
     */
    static void refuses(String call, int due, Supplier<FoldedBench> made, ToIntFunction<FoldedBench> asked) {
        for (int undos = 0; undos <= 6; undos++) {
            FoldedBench x = made.get();
            FoldedBench twin = made.get();
            Due.is(call, asked.applyAsInt(x), due);
            for (int i = 0; i < undos; i++) {
                Due.is(call + ", undo()", x.undo(), twin.undo());
            }
            Due.is("all after " + call + " and " + undos + " undo()", whole(x), whole(twin));
        }
        for (int slot = 0; slot < 2; slot++) {
            FoldedBench x = made.get();
            FoldedBench twin = made.get();
            Due.is(call, asked.applyAsInt(x), due);
            Due.is(call + ", restore(" + slot + ")", x.restore(slot), twin.restore(slot));
            Due.is("all after " + call + " and restore(" + slot + ")", whole(x), whole(twin));
        }
    }

    static long packed(String text) {
        long characters = 0;
        for (int i = 0; i < text.length(); i++) {
            characters = characters << 8 | text.charAt(i);
        }
        return characters;
    }

    /** Appends a text to the pad; the answer of the last put(). */
    static int put(FoldedBench x, String text) {
        int answer = 0;
        for (int i = 0; i < text.length() && answer >= 0; i += 8) {
            answer = x.put(packed(text.substring(i, Math.min(text.length(), i + 8))));
        }
        return answer;
    }

    /** Wipes the pad, puts a text there, and tells its fault. */
    static int faultOf(FoldedBench x, String text) {
        x.wipe();
        put(x, text);
        return x.fault();
    }

    /** Puts a text, and carries it out. */
    static int carryOut(FoldedBench x, String text) {
        put(x, text);
        return x.carryOut();
    }

    static String pad(FoldedBench x) {
        StringBuilder text = new StringBuilder();
        int length = x.count(11);
        for (int i = 0; i < length; i++) {
            text.append((char) x.sign(i));
        }
        return text.toString();
    }

    /** How the bench lies, by write(). */
    static String lies(FoldedBench x) {
        x.write();
        return pad(x);
    }

    /** All that can be seen without the pad's characters: by some 170 calls at most. */
    static String seen(FoldedBench x) {
        return x.count(11) + " " + x.count(12) + " " + state(x);
    }

    /** All that can be seen of what undo() and restore() bring back. */
    static String state(FoldedBench x) {
        StringBuilder all = new StringBuilder();
        for (int what = 0; what <= 10; what++) {
            all.append(x.count(what)).append(' ');
        }
        int cousins = x.count(0);
        for (int cousin = 0; cousin < cousins; cousin++) {
            for (int what = 0; what <= 5; what++) {
                all.append(x.of(cousin, what)).append(' ');
            }
        }
        int seats = x.count(8);
        for (int seat = 0; seat < seats; seat++) {
            for (int what = 0; what <= 4; what++) {
                all.append(x.ofSeat(seat, what)).append(' ');
            }
        }
        return all.toString();
    }

    /** What can be seen, the pad, and the gaps of the folds, for which the bench is unfolded: by some 270 calls. */
    private static String whole(FoldedBench x) {
        StringBuilder all = new StringBuilder(seen(x)).append(pad(x));
        for (int folds = x.count(3); folds > 0; folds--) {
            all.append(' ').append(x.unfold());
        }
        return all.toString();
    }
}
