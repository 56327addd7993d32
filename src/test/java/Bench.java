/** What the tests do again and again with a FoldedBench. */
final class Bench {
    private Bench() {
    }

    /** A bench with a cousin for each of these seats, sitting there, or standing where it is below 0. */
    static FoldedBench seated(int... seats) {
        FoldedBench x = new FoldedBench();
        for (int i = 0; i < seats.length; i++) {
            Due.is("cousin()", x.cousin(), i);
            if (seats[i] >= 0) {
                Due.is("sit(" + i + ", " + seats[i] + ")", x.sit(i, seats[i]), FoldedBench.NONE);
            }
        }
        return x;
    }

    /** A bench of so many seats without cousins. */
    static FoldedBench ofSeats(int seats) {
        FoldedBench x = new FoldedBench();
        Due.is("set(SEATS, " + seats + ")", x.set(FoldedBench.SEATS, seats), 8);
        return x;
    }

    static long packed(String text) {
        long characters = 0;
        for (int i = 0; i < text.length(); i++) {
            characters = characters << 8 | text.charAt(i);
        }
        return characters;
    }

    /** Appends a text to the pad; the answer of the last put(). */
    static int put(FoldedBench x, String text) {
        int answer = 0;
        for (int i = 0; i < text.length() && answer >= 0; i += 8) {
            answer = x.put(packed(text.substring(i, Math.min(text.length(), i + 8))));
        }
        return answer;
    }

    /** Wipes the pad, puts a text there, and tells its fault. */
    static int faultOf(FoldedBench x, String text) {
        x.wipe();
        put(x, text);
        return x.fault();
    }

    /** Puts a text, and carries it out. */
    static int carryOut(FoldedBench x, String text) {
        put(x, text);
        return x.carryOut();
    }

    static String pad(FoldedBench x) {
        StringBuilder text = new StringBuilder();
        int length = x.count(11);
        for (int i = 0; i < length; i++) {
            text.append((char) x.sign(i));
        }
        return text.toString();
    }

    /** How the bench lies, by write(). */
    static String lies(FoldedBench x) {
        x.write();
        return pad(x);
    }

    /** All that can be seen without the pad's characters: by some 200 calls at most. */
    static String seen(FoldedBench x) {
        StringBuilder all = new StringBuilder();
        for (int what = 0; what <= 12; what++) {
            all.append(x.count(what)).append(' ');
        }
        for (int cousin = 0; cousin < x.count(0); cousin++) {
            for (int what = 0; what <= 5; what++) {
                all.append(x.of(cousin, what)).append(' ');
            }
        }
        for (int seat = 0; seat < x.count(8); seat++) {
            for (int what = 0; what <= 4; what++) {
                all.append(x.ofSeat(seat, what)).append(' ');
            }
        }
        return all.toString();
    }
}
