/** Feuding cousins seated along a bench that folds; ../shared/DOC.md says what each call does. */
public final class FoldedBench {
    public static final int NO_SUCH = -1, BAD_VALUE = -2, BAD_TEXT = -3, TOO_MANY = -4, NOT_POSSIBLE = -5, NONE = -6;
    public static final int SEATS = 0, NEAR = 1, FACE = 2;

    private static final int MOST_SEATS = 16;
    private static final int MOST_COUSINS = 12;
    private static final int MOST_FOLDS = 5;
    private static final int MOST_SIGNS = 80;
    private static final int MOST_STATES = 6;
    private static final int SLOTS = 2;

    private static final int FRIENDS = 1;
    private static final int NEITHER = 0;
    private static final int FOES = -1;

    // One number for each setting, in their order.
    private static final int[] LOWEST = {2, 0, 0};
    private static final int[] HIGHEST = {16, 5, 9};
    private static final int[] AT_FIRST = {8, 1, 3};

    private final State now = new State();
    // One more than are kept: history[kept] takes the state before a change that may still fail.
    private final State[] history = new State[MOST_STATES + 1];
    private int kept = 0;
    private final State[] slots = new State[SLOTS];
    private final boolean[] saved = new boolean[SLOTS];
    // lays[n] is how the bench lies after its first n folds; those behind the latest fold are for trials.
    private final Lay[] lays = new Lay[MOST_FOLDS + 1];
    private final Orders orders = new Orders();
    private final Pad pad = orders.pad;

    public FoldedBench() {
        for (int i = 0; i < history.length; i++) {
            history[i] = new State();
        }
        for (int i = 0; i < slots.length; i++) {
            slots[i] = new State();
        }
        for (int i = 0; i < lays.length; i++) {
            lays[i] = new Lay();
        }
        lays[0].layFlat(AT_FIRST[SEATS]);
    }

    // ---- changes

    public int set(int setting, int value) {
        keepBefore();
        return recorded(changeSetting(setting, value));
    }

    public int cousin() {
        keepBefore();
        return recorded(comeIn());
    }

    public int sit(int cousin, int seat) {
        keepBefore();
        return recorded(takeSeat(cousin, seat));
    }

    public int stand(int cousin) {
        keepBefore();
        return recorded(getUp(cousin));
    }

    public int swap(int seat, int other) {
        keepBefore();
        return recorded(changePlaces(seat, other));
    }

    public int relate(int cousin, int other, int how) {
        keepBefore();
        return recorded(tellHow(cousin, other, how));
    }

    public int fold(int gap) {
        keepBefore();
        return recorded(foldGently(gap));
    }

    public int press(int gap) {
        keepBefore();
        return recorded(foldByForce(gap));
    }

    public int unfold() {
        keepBefore();
        return recorded(takeFoldBack());
    }

    public int write() {
        Lay lay = lying();
        pad.clear();
        for (int c = 0; c < lay.columns; c++) {
            if (c > 0) {
                pad.append('/');
            }
            for (int p = lay.starts[c]; p < lay.starts[c + 1]; p++) {
                if (p > lay.starts[c]) {
                    pad.append('.');
                }
                pad.appendNumber(lay.seatAt[p]);
            }
        }
        return pad.length;
    }

    // ---- what there is

    public int of(int cousin, int what) {
        if (!now.hasCousin(cousin)) {
            return NO_SUCH;
        }
        int seat = now.seatOf(cousin);
        switch (what) {
            case 0: return seat;
            case 1: return seat == NONE ? NONE : now.moodOn(seat, lying());
            case 2: return now.friends[cousin];
            case 3: return now.foes[cousin];
            case 4: return seat == NONE ? 0 : now.setOn(seat - 1, seat + 1);
            case 5: return seat == NONE ? 0 : now.setOn(lying().seatBelow(seat), lying().seatAbove(seat));
            default: return BAD_VALUE;
        }
    }

    public int ofSeat(int seat, int what) {
        if (!now.hasSeat(seat)) {
            return NO_SUCH;
        }
        Lay lay = lying();
        switch (what) {
            case 0: return now.sitters[seat];
            case 1: return lay.columnOf[seat];
            case 2: return lay.rankOf(seat);
            case 3: return lay.seatBelow(seat);
            case 4: return lay.seatAbove(seat);
            default: return BAD_VALUE;
        }
    }

    public int column(int column, int rank) {
        Lay lay = lying();
        if (column < 0 || column >= lay.columns) {
            return NO_SUCH;
        }
        if (rank < 0 || rank >= lay.heightOf(column)) {
            return NO_SUCH;
        }
        return lay.seatAt[lay.starts[column] + rank];
    }

    public int sign(int place) {
        return place < 0 || place >= pad.length ? NO_SUCH : pad.signs[place];
    }

    public int count(int what) {
        switch (what) {
            case 0: return now.cousins;
            case 1: return now.allWhoSit();
            case 2: return lying().columns;
            case 3: return now.folds;
            case 4: return now.pairsWhoFace(FOES, lying());
            case 5: return now.pairsWhoFace(FRIENDS, lying());
            case 6: return now.toast(lying());
            case 7: return lying().highest();
            case 8: return now.settings[SEATS];
            case 9: return now.settings[NEAR];
            case 10: return now.settings[FACE];
            case 11: return pad.length;
            case 12: return kept;
            default: return BAD_VALUE;
        }
    }

    // ---- what if; nothing changes

    public int ifFolded(int gap, int what) {
        if (!isGap(gap) || what < 0 || what > 4) {
            return BAD_VALUE;
        }
        if (now.folds >= MOST_FOLDS) {
            return TOO_MANY;
        }
        Lay then = tryFold(gap);
        switch (what) {
            case 0: return now.pairsWhoFace(FOES, then);
            case 1: return now.pairsWhoFace(FRIENDS, then);
            case 2: return now.toast(then);
            case 3: return then.columns;
            default: return then.highest();
        }
    }

    public int bestFold() {
        if (now.folds >= MOST_FOLDS) {
            return NONE;
        }
        int best = NONE;
        int bestToast = -1;
        for (int gap = 1; gap < lying().columns; gap++) {
            Lay then = tryFold(gap);
            if (now.pairsWhoFace(FOES, then) > 0) {
                continue;
            }
            int toast = now.toast(then);
            if (toast > bestToast) {
                best = gap;
                bestToast = toast;
            }
        }
        return best;
    }

    public int bestSwap(int what) {
        if (what < 0 || what > 2) {
            return BAD_VALUE;
        }
        int bestLower = 0;
        int bestHigher = 1;
        int fewest = MOST_SEATS;
        for (int lower = 0; lower < now.settings[SEATS]; lower++) {
            for (int higher = lower + 1; higher < now.settings[SEATS]; higher++) {
                int pairs = foesIfSwapped(lower, higher);
                if (pairs < fewest) {
                    fewest = pairs;
                    bestLower = lower;
                    bestHigher = higher;
                }
            }
        }
        switch (what) {
            case 0: return bestLower;
            case 1: return bestHigher;
            default: return fewest;
        }
    }

    public int fewestFolds() {
        if (lying().columns == 1) {
            return 0;
        }
        if (now.pairsWhoFace(FOES, lying()) > 0) {
            return NONE;
        }
        for (int all = now.folds + 1; all <= MOST_FOLDS; all++) {
            if (shrinks(now, lays, now.folds, all)) {
                return all - now.folds;
            }
        }
        return NONE;
    }

    // ---- texts

    public int put(long characters) {
        int many = charactersIn(characters);
        if (many == 0) {
            return BAD_VALUE;
        }
        if (pad.length + many > MOST_SIGNS) {
            return TOO_MANY;
        }
        for (int i = many - 1; i >= 0; i--) {
            pad.append((int) (characters >>> (8 * i)) & 255);
        }
        return pad.length;
    }

    public int wipe() {
        int length = pad.length;
        pad.clear();
        return length;
    }

    public int fault() {
        return orders.firstFault();
    }

    public int carryOut() {
        if (orders.firstFault() != NONE) {
            return BAD_TEXT;
        }
        keepBefore();
        int carried = 0;
        orders.rewind();
        while (carried < MOST_SIGNS && orders.readOrder() && !isError(carryOne())) {
            carried++;
            orders.skip(';');
        }
        pad.clear();
        return recorded(carried);
    }

    // ---- undo, saving

    public int undo() {
        if (kept == 0) {
            return NOT_POSSIBLE;
        }
        kept--;
        now.copyFrom(history[kept]);
        layAgain();
        return kept;
    }

    public int save(int slot) {
        if (slot < 0 || slot >= SLOTS) {
            return BAD_VALUE;
        }
        slots[slot].copyFrom(now);
        saved[slot] = true;
        return now.cousins;
    }

    public int restore(int slot) {
        if (slot < 0 || slot >= SLOTS) {
            return BAD_VALUE;
        }
        if (!saved[slot]) {
            return NOT_POSSIBLE;
        }
        keepBefore();
        now.copyFrom(slots[slot]);
        layAgain();
        return recorded(now.cousins);
    }

    // ---- the changes themselves, which record nothing: an order of a text uses them, too

    private int changeSetting(int setting, int value) {
        if (setting < 0 || setting >= LOWEST.length) {
            return BAD_VALUE;
        }
        if (value < LOWEST[setting] || value > HIGHEST[setting]) {
            return BAD_VALUE;
        }
        if (setting == SEATS && (now.folds > 0 || now.isTakenFrom(value))) {
            return NOT_POSSIBLE;
        }
        int previous = now.settings[setting];
        now.settings[setting] = value;
        if (setting == SEATS) {
            layAgain();
        }
        return previous;
    }

    private int comeIn() {
        if (now.cousins >= MOST_COUSINS) {
            return TOO_MANY;
        }
        now.cousins++;
        return now.cousins - 1;
    }

    private int takeSeat(int cousin, int seat) {
        if (!now.hasCousin(cousin) || !now.hasSeat(seat)) {
            return NO_SUCH;
        }
        if (now.folds > 0 || now.sitters[seat] != NONE) {
            return NOT_POSSIBLE;
        }
        int previous = now.seatOf(cousin);
        if (previous != NONE) {
            now.sitters[previous] = NONE;
        }
        now.sitters[seat] = cousin;
        return previous;
    }

    private int getUp(int cousin) {
        if (!now.hasCousin(cousin)) {
            return NO_SUCH;
        }
        int seat = now.seatOf(cousin);
        if (now.folds > 0 || seat == NONE) {
            return NOT_POSSIBLE;
        }
        now.sitters[seat] = NONE;
        return seat;
    }

    private int changePlaces(int seat, int other) {
        if (!now.hasSeat(seat) || !now.hasSeat(other)) {
            return NO_SUCH;
        }
        if (seat == other) {
            return BAD_VALUE;
        }
        if (now.folds > 0) {
            return NOT_POSSIBLE;
        }
        now.exchange(seat, other);
        return Integer.bitCount(now.setOn(seat, other));
    }

    private int tellHow(int cousin, int other, int how) {
        if (!now.hasCousin(cousin) || !now.hasCousin(other)) {
            return NO_SUCH;
        }
        if (cousin == other || how < FOES || how > FRIENDS) {
            return BAD_VALUE;
        }
        int previous = now.howAre(cousin, other);
        now.makeBe(cousin, other, how);
        now.makeBe(other, cousin, how);
        return previous + 1;
    }

    private int foldGently(int gap) {
        if (!isGap(gap)) {
            return BAD_VALUE;
        }
        if (now.folds >= MOST_FOLDS) {
            return TOO_MANY;
        }
        Lay then = tryFold(gap);
        if (now.pairsWhoFace(FOES, then) > 0) {
            return NOT_POSSIBLE;
        }
        now.addFold(gap);
        return then.columns;
    }

    private int foldByForce(int gap) {
        if (!isGap(gap)) {
            return BAD_VALUE;
        }
        if (now.folds >= MOST_FOLDS) {
            return TOO_MANY;
        }
        Lay then = tryFold(gap);
        now.addFold(gap);
        return now.pairsWhoFace(FOES, then);
    }

    private int takeFoldBack() {
        if (now.folds == 0) {
            return NOT_POSSIBLE;
        }
        now.folds--;
        return now.gaps[now.folds];
    }

    // ---- how the bench lies

    private Lay lying() {
        return lays[now.folds];
    }

    private boolean isGap(int gap) {
        return gap >= 1 && gap < lying().columns;
    }

    /** How the bench would lie by one more fold; only for a gap that there is, and less than 5 folds. */
    private Lay tryFold(int gap) {
        Lay then = lays[now.folds + 1];
        then.layFolded(lying(), gap);
        return then;
    }

    private void layAgain() {
        lays[0].layFlat(now.settings[SEATS]);
        for (int f = 0; f < now.folds; f++) {
            lays[f + 1].layFolded(lays[f], now.gaps[f]);
        }
    }

    private int foesIfSwapped(int lower, int higher) {
        now.exchange(lower, higher);
        int pairs = now.pairsWhoFace(FOES, lying());
        now.exchange(lower, higher);
        return pairs;
    }

    /** Whether a bench with so many folds, at which no foes face, has one column with that many in all. */
    private static boolean shrinks(State state, Lay[] lays, int folds, int all) {
        Lay lay = lays[folds];
        if (lay.columns == 1) {
            return true;
        }
        // A fold halves the columns at best, so that these could not become one any more.
        if (folds >= all || folds >= MOST_FOLDS || lay.columns > 1 << (all - folds)) {
            return false;
        }
        for (int gap = 1; gap < lay.columns; gap++) {
            // Who faces goes on facing, so that only those who come to face can have a fold refused.
            if (state.foesWouldMeet(lay, gap)) {
                continue;
            }
            lays[folds + 1].layFolded(lay, gap);
            if (shrinks(state, lays, folds + 1, all)) {
                return true;
            }
        }
        return false;
    }

    // ---- texts and history

    /** How many characters a number holds, 0 if it is none that may be put. */
    private static int charactersIn(long characters) {
        int many = 0;
        long rest = characters;
        while (many < 8 && rest != 0) {
            int code = (int) (rest & 255);
            if (code < 33 || code > 126) {
                return 0;
            }
            many++;
            rest >>>= 8;
        }
        return many;
    }

    /** Carries out the order that was read last. */
    private int carryOne() {
        switch (orders.kind) {
            case 'c': return comeIn();
            case 's': return takeSeat(orders.first, orders.second);
            case 'u': return getUp(orders.first);
            case 'x': return tellHow(orders.first, orders.second, orders.how);
            case 'f': return foldGently(orders.first);
            default: return takeFoldBack();
        }
    }

    private static boolean isError(int answer) {
        return answer < 0 && answer != NONE;
    }

    /** Ahead of a change: keeps the state behind the history, where recorded() finds it. */
    private void keepBefore() {
        history[kept].copyFrom(now);
    }

    /** Records the state that keepBefore() kept, unless the change has failed. */
    private int recorded(int answer) {
        if (isError(answer)) {
            return answer;
        }
        if (kept < MOST_STATES) {
            kept++;
        } else {
            dropOldest();
        }
        return answer;
    }

    private void dropOldest() {
        State oldest = history[0];
        for (int i = 0; i < MOST_STATES; i++) {
            history[i] = history[i + 1];
        }
        history[MOST_STATES] = oldest;
    }

    /** All that undo and restore bring back. */
    private static final class State {
        final int[] settings = new int[AT_FIRST.length];
        final int[] sitters = new int[MOST_SEATS];
        final int[] friends = new int[MOST_COUSINS];
        final int[] foes = new int[MOST_COUSINS];
        final int[] gaps = new int[MOST_FOLDS];
        int cousins = 0;
        int folds = 0;

        State() {
            for (int i = 0; i < settings.length; i++) {
                settings[i] = AT_FIRST[i];
            }
            for (int seat = 0; seat < sitters.length; seat++) {
                sitters[seat] = NONE;
            }
        }

        void copyFrom(State other) {
            System.arraycopy(other.settings, 0, settings, 0, settings.length);
            System.arraycopy(other.sitters, 0, sitters, 0, sitters.length);
            System.arraycopy(other.friends, 0, friends, 0, friends.length);
            System.arraycopy(other.foes, 0, foes, 0, foes.length);
            System.arraycopy(other.gaps, 0, gaps, 0, gaps.length);
            cousins = other.cousins;
            folds = other.folds;
        }

        boolean hasCousin(int cousin) {
            return cousin >= 0 && cousin < cousins;
        }

        boolean hasSeat(int seat) {
            return seat >= 0 && seat < settings[SEATS];
        }

        int seatOf(int cousin) {
            for (int seat = 0; seat < settings[SEATS]; seat++) {
                if (sitters[seat] == cousin) {
                    return seat;
                }
            }
            return NONE;
        }

        int sitterOn(int seat) {
            return hasSeat(seat) ? sitters[seat] : NONE;
        }

        boolean isTakenFrom(int firstSeat) {
            for (int seat = firstSeat; seat < settings[SEATS]; seat++) {
                if (sitters[seat] != NONE) {
                    return true;
                }
            }
            return false;
        }

        int bitOn(int seat) {
            int sitter = sitterOn(seat);
            return sitter == NONE ? 0 : 1 << sitter;
        }

        int setOn(int seat, int other) {
            return bitOn(seat) | bitOn(other);
        }

        int allWhoSit() {
            int all = 0;
            for (int seat = 0; seat < settings[SEATS]; seat++) {
                all |= bitOn(seat);
            }
            return all;
        }

        void exchange(int seat, int other) {
            int sitter = sitters[seat];
            sitters[seat] = sitters[other];
            sitters[other] = sitter;
        }

        int howAre(int cousin, int other) {
            if ((friends[cousin] >> other & 1) != 0) {
                return FRIENDS;
            }
            return (foes[cousin] >> other & 1) != 0 ? FOES : NEITHER;
        }

        void makeBe(int cousin, int other, int how) {
            int bit = 1 << other;
            friends[cousin] = how == FRIENDS ? friends[cousin] | bit : friends[cousin] & ~bit;
            foes[cousin] = how == FOES ? foes[cousin] | bit : foes[cousin] & ~bit;
        }

        /** How those on two seats are to each other; neither, if nobody sits on one, or there is no such seat. */
        int howAreOn(int seat, int other) {
            int sitter = sitterOn(seat);
            int otherSitter = sitterOn(other);
            return sitter == NONE || otherSitter == NONE ? NEITHER : howAre(sitter, otherSitter);
        }

        int pairsWhoFace(int how, Lay lay) {
            int pairs = 0;
            for (int seat = 0; seat < settings[SEATS]; seat++) {
                if (howAreOn(seat, lay.seatAbove(seat)) == how) {
                    pairs++;
                }
            }
            return pairs;
        }

        boolean foesWouldMeet(Lay lay, int gap) {
            for (int d = 0; d < gap && gap + d < lay.columns; d++) {
                if (howAreOn(lay.topOf(gap - 1 - d), lay.topOf(gap + d)) == FOES) {
                    return true;
                }
            }
            return false;
        }

        int moodOn(int seat, Lay lay) {
            int near = howAreOn(seat, seat - 1) + howAreOn(seat, seat + 1);
            int face = howAreOn(seat, lay.seatBelow(seat)) + howAreOn(seat, lay.seatAbove(seat));
            int mood = 5 + settings[NEAR] * near + settings[FACE] * face;
            return Math.max(0, Math.min(9, mood));
        }

        int toast(Lay lay) {
            int sum = 0;
            for (int seat = 0; seat < settings[SEATS]; seat++) {
                if (sitters[seat] != NONE) {
                    sum += moodOn(seat, lay);
                }
            }
            return sum;
        }

        void addFold(int gap) {
            gaps[folds] = gap;
            folds++;
        }
    }

    /** How a bench lies: its seats column after column, each column from below. */
    private static final class Lay {
        int columns = 0;
        int seats = 0;
        final int[] seatAt = new int[MOST_SEATS];
        // Where each column starts in seatAt; the entry behind the last column is where that one ends.
        final int[] starts = new int[MOST_SEATS + 1];
        final int[] columnOf = new int[MOST_SEATS];
        final int[] placeOf = new int[MOST_SEATS];

        void layFlat(int allSeats) {
            clear();
            for (int seat = 0; seat < allSeats; seat++) {
                addSeat(seat);
                closeColumn();
            }
        }

        void layFolded(Lay from, int gap) {
            clear();
            int width = Math.max(gap, from.columns - gap);
            for (int d = 0; d < width; d++) {
                if (d < gap) {
                    addUpright(from, gap - 1 - d);
                }
                if (gap + d < from.columns) {
                    addTurned(from, gap + d);
                }
                closeColumn();
            }
        }

        void clear() {
            columns = 0;
            seats = 0;
        }

        void addSeat(int seat) {
            seatAt[seats] = seat;
            placeOf[seat] = seats;
            columnOf[seat] = columns;
            seats++;
        }

        void closeColumn() {
            columns++;
            starts[columns] = seats;
        }

        void addUpright(Lay from, int column) {
            for (int p = from.starts[column]; p < from.starts[column + 1]; p++) {
                addSeat(from.seatAt[p]);
            }
        }

        void addTurned(Lay from, int column) {
            for (int p = from.starts[column + 1] - 1; p >= from.starts[column]; p--) {
                addSeat(from.seatAt[p]);
            }
        }

        int heightOf(int column) {
            return starts[column + 1] - starts[column];
        }

        int topOf(int column) {
            return seatAt[starts[column + 1] - 1];
        }

        int highest() {
            int height = 0;
            for (int c = 0; c < columns; c++) {
                height = Math.max(height, heightOf(c));
            }
            return height;
        }

        int rankOf(int seat) {
            return placeOf[seat] - starts[columnOf[seat]];
        }

        int seatBelow(int seat) {
            return rankOf(seat) == 0 ? NONE : seatAt[placeOf[seat] - 1];
        }

        int seatAbove(int seat) {
            return rankOf(seat) == heightOf(columnOf[seat]) - 1 ? NONE : seatAt[placeOf[seat] + 1];
        }
    }

    private static final class Pad {
        final int[] signs = new int[MOST_SIGNS];
        int length = 0;

        void clear() {
            length = 0;
        }

        void append(int code) {
            if (length < MOST_SIGNS) {
                signs[length] = code;
                length++;
            }
        }

        void appendNumber(int number) {
            if (number >= 10) {
                append('0' + number / 10);
            }
            append('0' + number % 10);
        }
    }

    /** The pad, read as orders; where it can't be read on, "at" is the fault. */
    private static final class Orders {
        final Pad pad = new Pad();
        int at = 0;
        int kind = 0;
        int first = 0;
        int second = 0;
        int how = NEITHER;

        void rewind() {
            at = 0;
        }

        int firstFault() {
            rewind();
            for (int read = 0; read < MOST_SIGNS; read++) {
                if (!readOrder()) {
                    return at;
                }
                if (!skip(';')) {
                    break;
                }
            }
            return at == pad.length ? NONE : at;
        }

        boolean readOrder() {
            kind = at < pad.length ? pad.signs[at] : 0;
            switch (kind) {
                case 'c':
                case 'o':
                    return skip(kind);
                case 'u':
                case 'f':
                    return skip(kind) && readFirst();
                case 's':
                    return skip(kind) && readFirst() && skip('@') && readSecond();
                case 'x':
                    return skip(kind) && readFirst() && skip('~') && readSecond() && readHow();
                default:
                    return false;
            }
        }

        boolean skip(int code) {
            if (at >= pad.length || pad.signs[at] != code) {
                return false;
            }
            at++;
            return true;
        }

        boolean readFirst() {
            first = readNumber();
            return first != NONE;
        }

        boolean readSecond() {
            second = readNumber();
            return second != NONE;
        }

        boolean readHow() {
            if (skip('+')) {
                how = FRIENDS;
            } else {
                how = skip('-') ? FOES : NEITHER;
            }
            return true;
        }

        /** A digit that may not go on a number is left: nothing that comes behind a number is a digit. */
        int readNumber() {
            int number = readDigit();
            if (number == NONE || number == 0) {
                return number;
            }
            int digit = readDigit();
            return digit == NONE ? number : 10 * number + digit;
        }

        int readDigit() {
            if (at >= pad.length || pad.signs[at] < '0' || pad.signs[at] > '9') {
                return NONE;
            }
            at++;
            return pad.signs[at - 1] - '0';
        }
    }
}
