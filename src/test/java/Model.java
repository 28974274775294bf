import java.util.ArrayDeque;
import java.util.ArrayList;
import java.util.Comparator;
import java.util.Deque;
import java.util.List;

/**
 * The document once more, written for the tests without a look at the program: slow, with the Java library, and
 * by other ways wherever there are some (pairs of mirrors, sorted lists, a table of states for the texts).
 */
final class Model {
    static final int NO_SUCH = -1, BAD_VALUE = -2, BAD_TEXT = -3, TOO_MANY = -4, NOT_POSSIBLE = -5, NONE = -6;

    private static final class Mirror {
        int row;
        int column;
        int aim;
        int dust;
        int brought;

        Mirror(int row, int column, int aim) {
            this.row = row;
            this.column = column;
            this.aim = aim;
        }

        Mirror copy() {
            Mirror copy = new Mirror(row, column, aim);
            copy.dust = dust;
            copy.brought = brought;
            return copy;
        }
    }

    private static final class State {
        int[] settings = {400, 50, 2};
        int wind;
        int days;
        int total;
        List<Mirror> mirrors = new ArrayList<>();

        State copy() {
            State copy = new State();
            copy.settings = settings.clone();
            copy.wind = wind;
            copy.days = days;
            copy.total = total;
            for (Mirror mirror : mirrors) {
                copy.mirrors.add(mirror.copy());
            }
            return copy;
        }

        boolean flat() {
            return wind > settings[1];
        }

        boolean blocked(int number) {
            Mirror it = mirrors.get(number);
            for (Mirror other : mirrors) {
                int nearer = it.row - other.row;
                int cross = (10 - it.column) * nearer - (other.column - it.column) * (it.row + 2);
                if (nearer >= 1 && nearer <= 4 && cross == 0) {
                    return true;
                }
            }
            return false;
        }

        int shader(int number, int hour) {
            Mirror it = mirrors.get(number);
            int high = 6 - Math.abs(hour - 5);
            int best = NONE;
            int bestTimes = 100;
            for (int other = 0; other < mirrors.size(); other++) {
                int times = it.row - mirrors.get(other).row;
                boolean towards = mirrors.get(other).column - it.column == times * (5 - hour);
                if (times >= 1 && times <= 6 / high && towards && times < bestTimes) {
                    best = other;
                    bestTimes = times;
                }
            }
            return best;
        }

        int gives(int number, int hour) {
            if (flat() || blocked(number) || shader(number, hour) != NONE) {
                return 0;
            }
            int high = 6 - Math.abs(hour - 5);
            int gives = (100 - mirrors.get(number).dust) * high * 20;
            gives = gives / (20 + mirrors.get(number).row);
            return gives / 10;
        }

        List<Integer> of(int aim) {
            List<Integer> numbers = new ArrayList<>();
            for (int number = 0; number < mirrors.size(); number++) {
                if (mirrors.get(number).aim == aim) {
                    numbers.add(number);
                }
            }
            return numbers;
        }

        List<Integer> used(int aim, int hour) {
            List<Integer> order = of(aim);
            order.sort(Comparator.<Integer>comparingInt(number -> -gives(number, hour))
                .thenComparingInt(number -> number));
            List<Integer> used = new ArrayList<>();
            int sum = 0;
            for (int number : order) {
                if (sum + gives(number, hour) <= settings[0]) {
                    sum += gives(number, hour);
                    used.add(number);
                }
            }
            return used;
        }

        int has(int aim, int hour) {
            int sum = 0;
            for (int number : used(aim, hour)) {
                sum += gives(number, hour);
            }
            return sum;
        }

        int day() {
            int sum = 0;
            for (int hour = 0; hour <= 10; hour++) {
                for (int aim = 0; aim <= 3; aim++) {
                    sum += has(aim, hour);
                }
            }
            return sum;
        }

        int in(int row, int column) {
            for (int number = 0; number < mirrors.size(); number++) {
                if (mirrors.get(number).row == row && mirrors.get(number).column == column) {
                    return number;
                }
            }
            return NONE;
        }
    }

    private State now = new State();
    private final Deque<State> history = new ArrayDeque<>();
    private final State[] slots = new State[2];
    private String pad = "";

    private static boolean in(int value, int least, int most) {
        return value >= least && value <= most;
    }

    private boolean is(int mirror) {
        return in(mirror, 0, now.mirrors.size() - 1);
    }

    private void record(State before) {
        history.addLast(before);
        if (history.size() > 6) {
            history.removeFirst();
        }
    }

    // ---- changes: those that are recorded, and what they do

    int call(String name, int... arguments) {
        State before = now.copy();
        int answer = change(name, arguments);
        if (answer >= 0) {
            record(before);
        }
        return answer;
    }

    private int change(String name, int... a) {
        switch (name) {
            case "set": return set(a[0], a[1]);
            case "mirror": return mirror(a[0], a[1], a[2]);
            case "take":
                if (!is(a[0])) {
                    return NO_SUCH;
                }
                now.mirrors.remove(a[0]);
                return now.mirrors.size();
            case "aim": return aim(a[0], a[1]);
            case "wash": return wash(a[0]);
            case "wind":
                if (!in(a[0], 0, 99)) {
                    return BAD_VALUE;
                }
                now.wind = a[0];
                return now.flat() ? 1 : 0;
            case "pass": return pass(a[0]);
            default: throw new IllegalStateException(name);
        }
    }

    private int set(int setting, int value) {
        int[][] ranges = {{1, 9999}, {1, 99}, {0, 20}};
        if (!in(setting, 0, 2) || !in(value, ranges[setting][0], ranges[setting][1])) {
            return BAD_VALUE;
        }
        int previous = now.settings[setting];
        now.settings[setting] = value;
        return previous;
    }

    private int mirror(int row, int column, int aim) {
        if (!in(row, 0, 19) || !in(column, 0, 19) || !in(aim, 0, 3)) {
            return BAD_VALUE;
        }
        if (now.in(row, column) != NONE) {
            return NOT_POSSIBLE;
        }
        if (now.mirrors.size() == 24) {
            return TOO_MANY;
        }
        now.mirrors.add(new Mirror(row, column, aim));
        return now.mirrors.size() - 1;
    }

    private int aim(int mirror, int aim) {
        if (!is(mirror)) {
            return NO_SUCH;
        }
        if (!in(aim, 0, 3)) {
            return BAD_VALUE;
        }
        int previous = now.mirrors.get(mirror).aim;
        now.mirrors.get(mirror).aim = aim;
        return previous;
    }

    private int wash(int mirror) {
        if (!is(mirror)) {
            return NO_SUCH;
        }
        int previous = now.mirrors.get(mirror).dust;
        now.mirrors.get(mirror).dust = 0;
        return previous;
    }

    private int pass(int days) {
        if (!in(days, 1, 99)) {
            return BAD_VALUE;
        }
        if (now.days + days > 999) {
            return NOT_POSSIBLE;
        }
        int sum = 0;
        for (int day = 0; day < days; day++) {
            for (int hour = 0; hour <= 10; hour++) {
                for (int aim = 0; aim <= 3; aim++) {
                    for (int number : now.used(aim, hour)) {
                        sum += now.gives(number, hour);
                        now.mirrors.get(number).brought += now.gives(number, hour);
                    }
                }
            }
            for (Mirror mirror : now.mirrors) {
                mirror.dust = Math.min(100, mirror.dust + now.settings[2]);
            }
        }
        now.days += days;
        now.total += sum;
        return sum;
    }

    // ---- what there is

    int of(int mirror, int what) {
        if (!is(mirror)) {
            return NO_SUCH;
        }
        if (!in(what, 0, 5)) {
            return BAD_VALUE;
        }
        Mirror it = now.mirrors.get(mirror);
        return new int[] {it.row, it.column, it.aim, it.dust, now.blocked(mirror) ? 1 : 0, it.brought}[what];
    }

    int at(int mirror, int hour, int what) {
        if (!is(mirror) || !in(hour, 0, 10)) {
            return NO_SUCH;
        }
        if (!in(what, 0, 3)) {
            return BAD_VALUE;
        }
        int shader = now.shader(mirror, hour);
        boolean used = now.used(now.mirrors.get(mirror).aim, hour).contains(mirror);
        return new int[] {shader == NONE ? 0 : 1, now.gives(mirror, hour), used ? 1 : 0, shader}[what];
    }

    int point(int aim, int hour, int what) {
        if (!in(aim, 0, 3) || !in(hour, 0, 10)) {
            return NO_SUCH;
        }
        if (!in(what, 0, 2)) {
            return BAD_VALUE;
        }
        return new int[] {now.has(aim, hour), mask(now.of(aim)), mask(now.used(aim, hour))}[what];
    }

    private static int mask(List<Integer> numbers) {
        int mask = 0;
        for (int number : numbers) {
            mask += 1 << number;
        }
        return mask;
    }

    int count(int what) {
        if (!in(what, 0, 12)) {
            return BAD_VALUE;
        }
        List<Integer> blocked = new ArrayList<>();
        int dust = 0;
        for (int number = 0; number < now.mirrors.size(); number++) {
            dust += now.mirrors.get(number).dust;
            if (now.blocked(number)) {
                blocked.add(number);
            }
        }
        return new int[] {now.days, now.mirrors.size(), now.wind, now.flat() ? 1 : 0, now.total, now.day(),
            mask(blocked), dust, now.settings[0], now.settings[1], now.settings[2], pad.length(),
            history.size()}[what];
    }

    int place(int row, int column) {
        return in(row, 0, 19) && in(column, 0, 19) ? now.in(row, column) : NO_SUCH;
    }

    // ---- what if

    int worthLeast(int what) {
        if (!in(what, 0, 1)) {
            return BAD_VALUE;
        }
        int[] best = {NONE, NONE};
        for (int number = 0; number < now.mirrors.size(); number++) {
            State state = now.copy();
            state.mirrors.remove(number);
            better(best, number, state);
        }
        return best[what];
    }

    int bestColumn(int row, int aim, int what) {
        if (!in(row, 0, 19) || !in(aim, 0, 3) || !in(what, 0, 1)) {
            return BAD_VALUE;
        }
        int[] best = {NONE, NONE};
        for (int column = 0; column < 20; column++) {
            if (now.in(row, column) == NONE) {
                State state = now.copy();
                state.mirrors.add(new Mirror(row, column, aim));
                better(best, column, state);
            }
        }
        return best[what];
    }

    int toWash() {
        int[] best = {NONE, NONE};
        for (int number = 0; number < now.mirrors.size(); number++) {
            State state = now.copy();
            state.mirrors.get(number).dust = 0;
            better(best, number, state);
        }
        return best[0];
    }

    private static void better(int[] best, int candidate, State state) {
        int day = state.day();
        if (day > best[1]) {
            best[0] = candidate;
            best[1] = day;
        }
    }

    /** Every LIMIT is tried, from the least on. */
    int leastLimit() {
        State state = now.copy();
        for (int limit = 1; limit <= 9999; limit++) {
            state.settings[0] = limit;
            int used = 0;
            int hours = 0;
            for (int hour = 0; hour <= 10 && used == hours * state.mirrors.size(); hour++) {
                hours++;
                for (int aim = 0; aim <= 3; aim++) {
                    used += state.used(aim, hour).size();
                }
            }
            if (used == 11 * state.mirrors.size()) {
                return limit;
            }
        }
        return NONE;
    }

    // ---- texts

    int put(long characters) {
        StringBuilder reversed = new StringBuilder();
        long rest = characters;
        while (rest != 0) {
            long sign = rest & 255;
            if (sign < 33 || sign > 126) {
                return BAD_VALUE;
            }
            reversed.append((char) sign);
            rest >>>= 8;
        }
        if (reversed.length() == 0) {
            return BAD_VALUE;
        }
        if (pad.length() + reversed.length() > 80) {
            return TOO_MANY;
        }
        pad += reversed.reverse();
        return pad.length();
    }

    int wipe() {
        int length = pad.length();
        pad = "";
        return length;
    }

    int fault() {
        return fault(pad);
    }

    /**
     * The states of a reader, each with what may stand in it: "signs:next". # is a digit 1 to 9, 9 any digit,
     * 3 a digit 0 to 3; a state with ! may end the text.
     */
    private static final String[][] STATES = {
        {"order", "+:row", "x:last", "w:last", "v:last", "t:last", "a:mirror"},
        {"row", "0:row2", "#:row1"}, {"row1", "9:row2", ".:column"}, {"row2", ".:column"},
        {"column", "0:column2", "#:column1"}, {"column1", "!", "9:column2", ";:order", "a:digit"},
        {"column2", "!", ";:order", "a:digit"},
        {"digit", "3:end"}, {"end", "!", ";:order"},
        {"mirror", "0:mirror2", "#:mirror1"}, {"mirror1", "9:mirror2", ">:digit"}, {"mirror2", ">:digit"},
        {"last", "0:end", "#:last1"}, {"last1", "!", "9:end", ";:order"},
    };

    static int fault(String text) {
        String state = "order";
        for (int index = 0; index < text.length(); index++) {
            state = next(state, text.charAt(index));
            if (state == null) {
                return index;
            }
        }
        return List.of(row(state)).contains("!") ? NONE : text.length();
    }

    private static String[] row(String state) {
        for (String[] row : STATES) {
            if (row[0].equals(state)) {
                return row;
            }
        }
        throw new IllegalStateException(state);
    }

    private static String next(String state, char sign) {
        for (String entry : row(state)) {
            if (entry.length() > 1 && entry.charAt(1) == ':') {
                char kind = entry.charAt(0);
                boolean fits = kind == '#' ? sign >= '1' && sign <= '9'
                    : kind == '9' ? sign >= '0' && sign <= '9'
                    : kind == '3' ? sign >= '0' && sign <= '3' : sign == kind;
                if (fits) {
                    return entry.substring(2);
                }
            }
        }
        return null;
    }

    int carryOut() {
        if (fault(pad) != NONE) {
            return BAD_TEXT;
        }
        record(now.copy());
        int carried = 0;
        for (String order : pad.split(";")) {
            if (carry(order) < 0) {
                break;
            }
            carried++;
        }
        pad = "";
        return carried;
    }

    private int carry(String order) {
        String[] parts = order.substring(1).split("[.a>]");
        int[] n = new int[3];
        for (int part = 0; part < parts.length; part++) {
            n[part] = Integer.parseInt(parts[part]);
        }
        switch (order.charAt(0)) {
            case '+': return change("mirror", n);
            case 'x': return change("take", n);
            case 'a': return change("aim", n);
            case 'w': return change("wash", n);
            case 'v': return change("wind", n);
            default: return change("pass", n);
        }
    }

    // ---- undo, saving

    int undo() {
        if (history.isEmpty()) {
            return NOT_POSSIBLE;
        }
        now = history.removeLast();
        return history.size();
    }

    int save(int slot) {
        if (!in(slot, 0, 1)) {
            return BAD_VALUE;
        }
        slots[slot] = now.copy();
        return now.mirrors.size();
    }

    int restore(int slot) {
        if (!in(slot, 0, 1)) {
            return BAD_VALUE;
        }
        if (slots[slot] == null) {
            return NOT_POSSIBLE;
        }
        record(now);
        now = slots[slot].copy();
        return now.mirrors.size();
    }
}
