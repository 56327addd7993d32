import java.util.ArrayList;
import java.util.Collections;
import java.util.List;
import java.util.regex.Matcher;
import java.util.regex.Pattern;

/** A plain second FoldedBench after the document, to compare answers with: lists, copies and trials without end. */
final class Model {
    static final int NO_SUCH = -1, BAD_VALUE = -2, BAD_TEXT = -3, TOO_MANY = -4, NOT_POSSIBLE = -5, NONE = -6;

    private static final String NUMBER = "(?:0|[1-9][0-9]?)";
    private static final String ORDER = "(?:c|o|s" + NUMBER + "@" + NUMBER + "|u" + NUMBER + "|f" + NUMBER
        + "|x" + NUMBER + "~" + NUMBER + "[+-]?)";
    private static final Pattern TEXT = Pattern.compile(ORDER + "(?:;" + ORDER + ")*");

    /** What undo and restore bring back. */
    private static final class Kept {
        int seats = 8;
        int near = 1;
        int face = 3;
        List<Integer> seatOf = new ArrayList<>();
        int[][] how = new int[12][12];
        List<Integer> gaps = new ArrayList<>();

        Kept copy() {
            Kept copy = new Kept();
            copy.seats = seats;
            copy.near = near;
            copy.face = face;
            copy.seatOf = new ArrayList<>(seatOf);
            for (int i = 0; i < 12; i++) {
                copy.how[i] = how[i].clone();
            }
            copy.gaps = new ArrayList<>(gaps);
            return copy;
        }
    }

    private Kept now = new Kept();
    private final List<Kept> history = new ArrayList<>();
    private final Kept[] slots = new Kept[2];
    private String pad = "";

    // ---- how it lies

    private static List<List<Integer>> flat(int seats) {
        List<List<Integer>> columns = new ArrayList<>();
        for (int seat = 0; seat < seats; seat++) {
            columns.add(List.of(seat));
        }
        return columns;
    }

    private static List<List<Integer>> folded(List<List<Integer>> columns, int gap) {
        List<List<Integer>> then = new ArrayList<>();
        for (int d = 0; gap - 1 - d >= 0 || gap + d < columns.size(); d++) {
            List<Integer> stack = new ArrayList<>();
            if (gap - 1 - d >= 0) {
                stack.addAll(columns.get(gap - 1 - d));
            }
            if (gap + d < columns.size()) {
                List<Integer> turned = new ArrayList<>(columns.get(gap + d));
                Collections.reverse(turned);
                stack.addAll(turned);
            }
            then.add(stack);
        }
        return then;
    }

    private static List<List<Integer>> lying(Kept state) {
        List<List<Integer>> columns = flat(state.seats);
        for (int gap : state.gaps) {
            columns = folded(columns, gap);
        }
        return columns;
    }

    private List<List<Integer>> lying() {
        return lying(now);
    }

    private static boolean face(List<List<Integer>> columns, int seat, int other) {
        for (List<Integer> stack : columns) {
            int i = stack.indexOf(seat);
            int j = stack.indexOf(other);
            if (i >= 0 && j >= 0 && Math.abs(i - j) == 1) {
                return true;
            }
        }
        return false;
    }

    private boolean cousinsFace(List<List<Integer>> columns, int cousin, int other) {
        int seat = now.seatOf.get(cousin);
        int otherSeat = now.seatOf.get(other);
        return seat >= 0 && otherSeat >= 0 && face(columns, seat, otherSeat);
    }

    private boolean areBeside(int cousin, int other) {
        int seat = now.seatOf.get(cousin);
        int otherSeat = now.seatOf.get(other);
        return seat >= 0 && otherSeat >= 0 && Math.abs(seat - otherSeat) == 1;
    }

    private int pairs(List<List<Integer>> columns, int how) {
        int pairs = 0;
        for (int i = 0; i < now.seatOf.size(); i++) {
            for (int j = 0; j < i; j++) {
                if (now.how[i][j] == how && cousinsFace(columns, i, j)) {
                    pairs++;
                }
            }
        }
        return pairs;
    }

    private int mood(List<List<Integer>> columns, int cousin) {
        if (now.seatOf.get(cousin) < 0) {
            return NONE;
        }
        int mood = 5;
        for (int other = 0; other < now.seatOf.size(); other++) {
            if (areBeside(cousin, other)) {
                mood += now.near * now.how[cousin][other];
            }
            if (cousinsFace(columns, cousin, other)) {
                mood += now.face * now.how[cousin][other];
            }
        }
        return mood < 0 ? 0 : mood > 9 ? 9 : mood;
    }

    private int toast(List<List<Integer>> columns) {
        int sum = 0;
        for (int cousin = 0; cousin < now.seatOf.size(); cousin++) {
            if (now.seatOf.get(cousin) >= 0) {
                sum += mood(columns, cousin);
            }
        }
        return sum;
    }

    private static int highest(List<List<Integer>> columns) {
        int highest = 0;
        for (List<Integer> stack : columns) {
            highest = Math.max(highest, stack.size());
        }
        return highest;
    }

    private boolean isCousin(int cousin) {
        return cousin >= 0 && cousin < now.seatOf.size();
    }

    private boolean isSeat(int seat) {
        return seat >= 0 && seat < now.seats;
    }

    private boolean isFolded() {
        return !now.gaps.isEmpty();
    }

    // ---- changes; each makes its change on a copy's place in the history

    private int change(int answer, Kept before) {
        if (answer >= 0 || answer == NONE) {
            history.add(before);
            if (history.size() > 6) {
                history.remove(0);
            }
        }
        return answer;
    }

    int set(int setting, int value) {
        Kept before = now.copy();
        return change(set0(setting, value), before);
    }

    private int set0(int setting, int value) {
        int previous;
        switch (setting) {
            case 0:
                if (value < 2 || value > 16) {
                    return BAD_VALUE;
                }
                if (isFolded()) {
                    return NOT_POSSIBLE;
                }
                for (int seat : now.seatOf) {
                    if (seat >= value) {
                        return NOT_POSSIBLE;
                    }
                }
                previous = now.seats;
                now.seats = value;
                return previous;
            case 1:
                if (value < 0 || value > 5) {
                    return BAD_VALUE;
                }
                previous = now.near;
                now.near = value;
                return previous;
            case 2:
                if (value < 0 || value > 9) {
                    return BAD_VALUE;
                }
                previous = now.face;
                now.face = value;
                return previous;
            default:
                return BAD_VALUE;
        }
    }

    int cousin() {
        Kept before = now.copy();
        return change(cousin0(), before);
    }

    private int cousin0() {
        if (now.seatOf.size() == 12) {
            return TOO_MANY;
        }
        now.seatOf.add(NONE);
        return now.seatOf.size() - 1;
    }

    int sit(int cousin, int seat) {
        Kept before = now.copy();
        return change(sit0(cousin, seat), before);
    }

    private int sit0(int cousin, int seat) {
        if (!isCousin(cousin) || !isSeat(seat)) {
            return NO_SUCH;
        }
        if (isFolded() || now.seatOf.contains(seat)) {
            return NOT_POSSIBLE;
        }
        return now.seatOf.set(cousin, seat);
    }

    int stand(int cousin) {
        Kept before = now.copy();
        return change(stand0(cousin), before);
    }

    private int stand0(int cousin) {
        if (!isCousin(cousin)) {
            return NO_SUCH;
        }
        if (isFolded() || now.seatOf.get(cousin) < 0) {
            return NOT_POSSIBLE;
        }
        return now.seatOf.set(cousin, NONE);
    }

    int swap(int seat, int other) {
        Kept before = now.copy();
        return change(swap0(seat, other), before);
    }

    private int swap0(int seat, int other) {
        if (!isSeat(seat) || !isSeat(other)) {
            return NO_SUCH;
        }
        if (seat == other) {
            return BAD_VALUE;
        }
        return isFolded() ? NOT_POSSIBLE : exchange(seat, other);
    }

    private int exchange(int seat, int other) {
        int moved = 0;
        for (int cousin = 0; cousin < now.seatOf.size(); cousin++) {
            int was = now.seatOf.get(cousin);
            if (was == seat || was == other) {
                now.seatOf.set(cousin, seat + other - was);
                moved++;
            }
        }
        return moved;
    }

    int relate(int cousin, int other, int how) {
        Kept before = now.copy();
        return change(relate0(cousin, other, how), before);
    }

    private int relate0(int cousin, int other, int how) {
        if (!isCousin(cousin) || !isCousin(other)) {
            return NO_SUCH;
        }
        if (cousin == other || how != 1 && how != 0 && how != -1) {
            return BAD_VALUE;
        }
        int previous = now.how[cousin][other];
        now.how[cousin][other] = how;
        now.how[other][cousin] = how;
        return previous + 1;
    }

    int fold(int gap) {
        Kept before = now.copy();
        return change(fold0(gap), before);
    }

    private int fold0(int gap) {
        int columns = ifFolded(gap, 3);
        if (columns < 0) {
            return columns;
        }
        if (ifFolded(gap, 0) > 0) {
            return NOT_POSSIBLE;
        }
        now.gaps.add(gap);
        return columns;
    }

    int press(int gap) {
        Kept before = now.copy();
        return change(press0(gap), before);
    }

    private int press0(int gap) {
        int pairs = ifFolded(gap, 0);
        if (pairs >= 0) {
            now.gaps.add(gap);
        }
        return pairs;
    }

    int unfold() {
        Kept before = now.copy();
        return change(unfold0(), before);
    }

    private int unfold0() {
        return isFolded() ? now.gaps.remove(now.gaps.size() - 1) : NOT_POSSIBLE;
    }

    int write() {
        StringBuilder text = new StringBuilder();
        for (List<Integer> stack : lying()) {
            String sign = "/";
            for (int seat : stack) {
                text.append(sign).append(seat);
                sign = ".";
            }
        }
        pad = text.substring(1);
        return pad.length();
    }

    // ---- what there is

    int of(int cousin, int what) {
        if (!isCousin(cousin)) {
            return NO_SUCH;
        }
        List<List<Integer>> columns = lying();
        int set = 0;
        for (int other = 0; other < now.seatOf.size(); other++) {
            boolean in = what == 2 && now.how[cousin][other] == 1 || what == 3 && now.how[cousin][other] == -1
                || what == 4 && areBeside(cousin, other) || what == 5 && cousinsFace(columns, cousin, other);
            set += in ? 1 << other : 0;
        }
        switch (what) {
            case 0: return now.seatOf.get(cousin);
            case 1: return mood(columns, cousin);
            case 2:
            case 3:
            case 4:
            case 5: return set;
            default: return BAD_VALUE;
        }
    }

    int ofSeat(int seat, int what) {
        if (!isSeat(seat)) {
            return NO_SUCH;
        }
        List<List<Integer>> columns = lying();
        int column = 0;
        while (!columns.get(column).contains(seat)) {
            column++;
        }
        List<Integer> stack = columns.get(column);
        int rank = stack.indexOf(seat);
        switch (what) {
            case 0: return now.seatOf.contains(seat) ? now.seatOf.indexOf(seat) : NONE;
            case 1: return column;
            case 2: return rank;
            case 3: return rank > 0 ? stack.get(rank - 1) : NONE;
            case 4: return rank + 1 < stack.size() ? stack.get(rank + 1) : NONE;
            default: return BAD_VALUE;
        }
    }

    int column(int column, int rank) {
        List<List<Integer>> columns = lying();
        if (column < 0 || column >= columns.size() || rank < 0 || rank >= columns.get(column).size()) {
            return NO_SUCH;
        }
        return columns.get(column).get(rank);
    }

    int sign(int place) {
        return place >= 0 && place < pad.length() ? pad.charAt(place) : NO_SUCH;
    }

    int count(int what) {
        switch (what) {
            case 0: return now.seatOf.size();
            case 1:
                int set = 0;
                for (int cousin = 0; cousin < now.seatOf.size(); cousin++) {
                    set += now.seatOf.get(cousin) >= 0 ? 1 << cousin : 0;
                }
                return set;
            case 2: return lying().size();
            case 3: return now.gaps.size();
            case 4: return pairs(lying(), -1);
            case 5: return pairs(lying(), 1);
            case 6: return toast(lying());
            case 7: return highest(lying());
            case 8: return now.seats;
            case 9: return now.near;
            case 10: return now.face;
            case 11: return pad.length();
            case 12: return history.size();
            default: return BAD_VALUE;
        }
    }

    // ---- what if

    int ifFolded(int gap, int what) {
        List<List<Integer>> columns = lying();
        if (gap < 1 || gap >= columns.size() || what < 0 || what > 4) {
            return BAD_VALUE;
        }
        if (now.gaps.size() == 5) {
            return TOO_MANY;
        }
        List<List<Integer>> then = folded(columns, gap);
        int[] answers = {pairs(then, -1), pairs(then, 1), toast(then), then.size(), highest(then)};
        return answers[what];
    }

    int bestFold() {
        int best = NONE;
        if (now.gaps.size() < 5) {
            for (int gap = lying().size() - 1; gap >= 1; gap--) {
                if (ifFolded(gap, 0) == 0 && (best == NONE || ifFolded(gap, 2) >= ifFolded(best, 2))) {
                    best = gap;
                }
            }
        }
        return best;
    }

    int bestSwap(int what) {
        if (what < 0 || what > 2) {
            return BAD_VALUE;
        }
        List<List<Integer>> columns = lying();
        List<Integer> seatOf = new ArrayList<>(now.seatOf);
        int[] best = {0, 0, Integer.MAX_VALUE};
        for (int lower = now.seats - 2; lower >= 0; lower--) {
            for (int higher = now.seats - 1; higher > lower; higher--) {
                exchange(lower, higher);
                int pairs = pairs(columns, -1);
                now.seatOf = new ArrayList<>(seatOf);
                if (pairs <= best[2]) {
                    best = new int[] {lower, higher, pairs};
                }
            }
        }
        return best[what];
    }

    /** Goes through all that can be reached by one more fold, by two, and so on. */
    int fewestFolds() {
        List<List<List<Integer>>> reached = List.of(lying());
        for (int further = 0; now.gaps.size() + further <= 5; further++) {
            for (List<List<Integer>> columns : reached) {
                if (columns.size() == 1) {
                    return further;
                }
            }
            reached = oneMoreFold(reached);
        }
        return NONE;
    }

    private List<List<List<Integer>>> oneMoreFold(List<List<List<Integer>>> reached) {
        List<List<List<Integer>>> next = new ArrayList<>();
        for (List<List<Integer>> columns : reached) {
            for (int gap = 1; gap < columns.size(); gap++) {
                List<List<Integer>> then = folded(columns, gap);
                if (pairs(then, -1) == 0) {
                    next.add(then);
                }
            }
        }
        return next;
    }

    // ---- texts

    int put(long characters) {
        StringBuilder text = new StringBuilder();
        boolean ended = false;
        for (int i = 0; i < 8; i++) {
            int code = (int) (characters >> 8 * i & 255);
            if (code == 0) {
                ended = true;
            } else if (ended || code < 33 || code > 126) {
                return BAD_VALUE;
            } else {
                text.insert(0, (char) code);
            }
        }
        if (text.length() == 0) {
            return BAD_VALUE;
        }
        if (pad.length() + text.length() > 80) {
            return TOO_MANY;
        }
        pad += text;
        return pad.length();
    }

    int wipe() {
        int length = pad.length();
        pad = "";
        return length;
    }

    /** The longest beginning that some text goes on from ends where the fault is. */
    int fault() {
        if (TEXT.matcher(pad).matches()) {
            return NONE;
        }
        for (int length = 1; length <= pad.length(); length++) {
            Matcher matcher = TEXT.matcher(pad.substring(0, length));
            if (!matcher.matches() && !matcher.hitEnd()) {
                return length - 1;
            }
        }
        return pad.length();
    }

    int carryOut() {
        if (fault() != NONE) {
            return BAD_TEXT;
        }
        Kept before = now.copy();
        int carried = 0;
        for (String order : pad.split(";")) {
            int answer = carry(order);
            if (answer < 0 && answer != NONE) {
                break;
            }
            carried++;
        }
        pad = "";
        return change(carried, before);
    }

    private int carry(String order) {
        String[] numbers = order.substring(1).split("[@~+-]");
        switch (order.charAt(0)) {
            case 'c': return cousin0();
            case 'o': return unfold0();
            case 's': return sit0(Integer.parseInt(numbers[0]), Integer.parseInt(numbers[1]));
            case 'u': return stand0(Integer.parseInt(numbers[0]));
            case 'f': return fold0(Integer.parseInt(numbers[0]));
            default:
                int how = order.endsWith("+") ? 1 : order.endsWith("-") ? -1 : 0;
                return relate0(Integer.parseInt(numbers[0]), Integer.parseInt(numbers[1]), how);
        }
    }

    // ---- undo, saving

    int undo() {
        if (history.isEmpty()) {
            return NOT_POSSIBLE;
        }
        now = history.remove(history.size() - 1);
        return history.size();
    }

    int save(int slot) {
        if (slot != 0 && slot != 1) {
            return BAD_VALUE;
        }
        slots[slot] = now.copy();
        return now.seatOf.size();
    }

    int restore(int slot) {
        if (slot != 0 && slot != 1) {
            return BAD_VALUE;
        }
        if (slots[slot] == null) {
            return NOT_POSSIBLE;
        }
        Kept before = now;
        now = slots[slot].copy();
        return change(now.seatOf.size(), before);
    }
}
