import java.util.Arrays;

/**
 * A field of mirrors that follow the sun and aim at a tower.
 * The words used here are those of the document (shared/DOC.md), which also numbers the promises.
 */
public final class SunMirrors {
    public static final int NO_SUCH = -1, BAD_VALUE = -2, BAD_TEXT = -3, TOO_MANY = -4, NOT_POSSIBLE = -5, NONE = -6;
    public static final int LIMIT = 0, WIND = 1, DUST = 2;

    private static final int SETTINGS = 3;
    private static final int LEAST_LIMIT = 1;
    private static final int MOST_LIMIT = 9999;
    private static final int FIRST_LIMIT = 400;
    private static final int LEAST_WIND_SETTING = 1;
    private static final int MOST_WIND_SETTING = 99;
    private static final int FIRST_WIND_SETTING = 50;
    private static final int LEAST_DUST_SETTING = 0;
    private static final int MOST_DUST_SETTING = 20;
    private static final int FIRST_DUST_SETTING = 2;

    private static final int SIDE = 20;
    private static final int TOWER_ROW = -2;
    private static final int TOWER_COLUMN = 10;
    private static final int BLOCKING_ROWS = 4;
    private static final int AIM_POINTS = 4;
    private static final int MOST_MIRRORS = 24;
    // One more than a field may have, for the what-if of a mirror more.
    private static final int ROOM = MOST_MIRRORS + 1;
    private static final int MOST_DUST = 100;
    private static final int MOST_WIND = 99;
    private static final int MOST_DAYS = 999;
    private static final int MOST_DAYS_AT_ONCE = 99;
    private static final int HOURS = 11;
    private static final int NOON = 5;
    private static final int HIGHEST = 6;
    private static final int LONGEST_SHADE = 6;
    private static final int ROWS_TO_HALF = 20;

    private static final int MOST_SIGNS = 80;
    private static final int MOST_SIGNS_AT_ONCE = 8;
    private static final int SIGN_BITS = 8;
    private static final int SIGN_MASK = 255;
    private static final int LEAST_SIGN = 33;
    private static final int MOST_SIGN = 126;

    private static final int MOST_UNDONE = 6;
    private static final int SLOTS = 2;

    private final Field field = new Field();
    private final Light light = new Light(field);
    private final Advice advice = new Advice(field);
    private final Pad pad = new Pad();
    private final Reader reader = new Reader(pad);
    private final History history = new History();
    private final Shelf slots = new Shelf(SLOTS);
    private int savedSlots = 0;

    public SunMirrors() {
    }

    // ---- changes

    public int set(int setting, int value) {
        history.note(field);
        return recorded(field.changeSetting(setting, value));
    }

    public int mirror(int row, int column, int aim) {
        history.note(field);
        return recorded(field.place(row, column, aim));
    }

    public int take(int mirror) {
        history.note(field);
        return recorded(field.remove(mirror));
    }

    public int aim(int mirror, int aim) {
        history.note(field);
        return recorded(field.turn(mirror, aim));
    }

    public int wash(int mirror) {
        history.note(field);
        return recorded(field.clean(mirror));
    }

    public int wind(int wind) {
        history.note(field);
        return recorded(field.blow(wind));
    }

    public int pass(int days) {
        history.note(field);
        return recorded(light.spend(days));
    }

    // ---- what there is

    public int of(int mirror, int what) {
        if (!field.isMirror(mirror)) {
            return NO_SUCH;
        }
        switch (what) {
            case 0: return field.rows.read(mirror);
            case 1: return field.columns.read(mirror);
            case 2: return field.aims.read(mirror);
            case 3: return field.dusts.read(mirror);
            case 4:
                light.look();
                return light.isBlocked(mirror) ? 1 : 0;
            case 5: return field.brought.read(mirror);
            default: return BAD_VALUE;
        }
    }

    public int at(int mirror, int hour, int what) {
        if (!field.isMirror(mirror) || !Sun.isHour(hour)) {
            return NO_SUCH;
        }
        light.look();
        light.work(hour);
        switch (what) {
            case 0: return light.shader(mirror, hour) == NONE ? 0 : 1;
            case 1: return light.given(mirror);
            case 2: return light.isUsed(mirror) ? 1 : 0;
            case 3: return light.shader(mirror, hour);
            default: return BAD_VALUE;
        }
    }

    public int point(int aim, int hour, int what) {
        if (!isAimPoint(aim) || !Sun.isHour(hour)) {
            return NO_SUCH;
        }
        light.look();
        light.work(hour);
        switch (what) {
            case 0: return light.held(aim);
            case 1: return field.mirrorsOf(aim);
            case 2: return field.mirrorsOf(aim) & light.used();
            default: return BAD_VALUE;
        }
    }

    public int count(int what) {
        switch (what) {
            case 0: return field.days;
            case 1: return field.mirrors;
            case 2: return field.wind;
            case 3: return field.liesFlat() ? 1 : 0;
            case 4: return field.broughtByAll;
            case 5:
                light.look();
                return light.day();
            case 6:
                light.look();
                return light.blocked();
            case 7: return field.allDust();
            case 8: return field.settings.read(LIMIT);
            case 9: return field.settings.read(WIND);
            case 10: return field.settings.read(DUST);
            case 11: return pad.length();
            case 12: return history.size();
            default: return BAD_VALUE;
        }
    }

    public int in(int row, int column) {
        return isPlace(row, column) ? field.mirrorIn(row, column) : NO_SUCH;
    }

    // ---- what if; nothing changes

    public int worthLeast(int what) {
        return isChoice(what) ? advice.leastWorth(what) : BAD_VALUE;
    }

    public int bestColumn(int row, int aim, int what) {
        if (!isPlace(row, 0) || !isAimPoint(aim) || !isChoice(what)) {
            return BAD_VALUE;
        }
        return advice.columnForOneMore(row, aim, what);
    }

    public int toWash() {
        return advice.mirrorToWash();
    }

    public int leastLimit() {
        return advice.limitForAll();
    }

    // ---- texts

    public int put(long characters) {
        return pad.append(characters);
    }

    public int wipe() {
        return pad.empty();
    }

    public int fault() {
        return reader.read();
    }

    public int carryOut() {
        if (reader.read() != NONE) {
            return BAD_TEXT;
        }
        history.note(field);
        int orders = reader.orders();
        int carried = 0;
        while (carried < orders && carry(carried) >= 0) {
            carried++;
        }
        pad.empty();
        return recorded(carried);
    }

    // ---- undo, saving

    public int undo() {
        return history.stepBack(field) ? history.size() : NOT_POSSIBLE;
    }

    public int save(int slot) {
        if (!isSlot(slot)) {
            return BAD_VALUE;
        }
        slots.keep(slot, field);
        savedSlots |= 1 << slot;
        return field.mirrors;
    }

    public int restore(int slot) {
        if (!isSlot(slot)) {
            return BAD_VALUE;
        }
        if ((savedSlots >> slot & 1) == 0) {
            return NOT_POSSIBLE;
        }
        history.note(field);
        slots.bringBack(slot, field);
        return recorded(field.mirrors);
    }

    // ---- what the calls share

    /** No change answers below 0 but with an error, and an error leaves the history alone. */
    private int recorded(int answer) {
        if (answer >= 0) {
            history.keepNote();
        }
        return answer;
    }

    private int carry(int order) {
        int first = reader.first(order);
        int second = reader.second(order);
        switch (reader.kind(order)) {
            case '+': return field.place(first, second, reader.third(order));
            case 'x': return field.remove(first);
            case 'a': return field.turn(first, second);
            case 'w': return field.clean(first);
            case 'v': return field.blow(first);
            case 't': return light.spend(first);
            default: return BAD_TEXT;
        }
    }

    private static boolean isPlace(int row, int column) {
        return row >= 0 && row < SIDE && column >= 0 && column < SIDE;
    }

    private static boolean isAimPoint(int aim) {
        return aim >= 0 && aim < AIM_POINTS;
    }

    private static boolean isChoice(int what) {
        return what == 0 || what == 1;
    }

    private static boolean isSlot(int slot) {
        return slot >= 0 && slot < SLOTS;
    }

    /** Numbers in a row. Outside it every number is 0 and stays so: no index can be wrong. */
    private static final class Cells {
        private final int[] numbers;

        Cells(int size) {
            numbers = new int[Math.max(size, 0)];
        }

        int read(int index) {
            return index >= 0 && index < numbers.length ? numbers[index] : 0;
        }

        void write(int index, int number) {
            if (index >= 0 && index < numbers.length) {
                numbers[index] = number;
            }
        }

        void fill(int number) {
            Arrays.fill(numbers, number);
        }

        void copy(Cells other) {
            System.arraycopy(other.numbers, 0, numbers, 0, Math.min(other.numbers.length, numbers.length));
        }

        /** Those behind the number that is left out move up. */
        void leaveOut(int index) {
            if (index >= 0 && index < numbers.length) {
                System.arraycopy(numbers, index + 1, numbers, index, numbers.length - 1 - index);
            }
        }
    }

    /** The sun by hours. */
    private static final class Sun {
        static boolean isHour(int hour) {
            return hour >= 0 && hour < HOURS;
        }

        static int height(int hour) {
            return HIGHEST - Math.abs(hour - NOON);
        }

        /** How many columns to the right the sun stands, for one row up. */
        static int columns(int hour) {
            return NOON - hour;
        }
    }

    /** All that is undone and saved: the settings, the mirrors, the wind, and the days so far. */
    private static final class Field {
        final Cells settings = new Cells(SETTINGS);
        final Cells rows = new Cells(ROOM);
        final Cells columns = new Cells(ROOM);
        final Cells aims = new Cells(ROOM);
        final Cells dusts = new Cells(ROOM);
        final Cells brought = new Cells(ROOM);
        int mirrors = 0;
        int wind = 0;
        int days = 0;
        int broughtByAll = 0;

        Field() {
            settings.write(LIMIT, FIRST_LIMIT);
            settings.write(WIND, FIRST_WIND_SETTING);
            settings.write(DUST, FIRST_DUST_SETTING);
        }

        void copy(Field other) {
            settings.copy(other.settings);
            rows.copy(other.rows);
            columns.copy(other.columns);
            aims.copy(other.aims);
            dusts.copy(other.dusts);
            brought.copy(other.brought);
            mirrors = other.mirrors;
            wind = other.wind;
            days = other.days;
            broughtByAll = other.broughtByAll;
        }

        int changeSetting(int setting, int value) {
            if (!isSettingValue(setting, value)) {
                return BAD_VALUE;
            }
            int previous = settings.read(setting);
            settings.write(setting, value);
            return previous;
        }

        private static boolean isSettingValue(int setting, int value) {
            switch (setting) {
                case LIMIT: return value >= LEAST_LIMIT && value <= MOST_LIMIT;
                case WIND: return value >= LEAST_WIND_SETTING && value <= MOST_WIND_SETTING;
                case DUST: return value >= LEAST_DUST_SETTING && value <= MOST_DUST_SETTING;
                default: return false;
            }
        }

        int place(int row, int column, int aim) {
            if (!isPlace(row, column) || !isAimPoint(aim)) {
                return BAD_VALUE;
            }
            if (mirrorIn(row, column) != NONE) {
                return NOT_POSSIBLE;
            }
            if (mirrors >= MOST_MIRRORS) {
                return TOO_MANY;
            }
            return add(row, column, aim);
        }

        int add(int row, int column, int aim) {
            int mirror = mirrors;
            rows.write(mirror, row);
            columns.write(mirror, column);
            aims.write(mirror, aim);
            dusts.write(mirror, 0);
            brought.write(mirror, 0);
            mirrors++;
            return mirror;
        }

        int remove(int mirror) {
            if (!isMirror(mirror)) {
                return NO_SUCH;
            }
            rows.leaveOut(mirror);
            columns.leaveOut(mirror);
            aims.leaveOut(mirror);
            dusts.leaveOut(mirror);
            brought.leaveOut(mirror);
            mirrors--;
            return mirrors;
        }

        int turn(int mirror, int aim) {
            if (!isMirror(mirror)) {
                return NO_SUCH;
            }
            if (!isAimPoint(aim)) {
                return BAD_VALUE;
            }
            int previous = aims.read(mirror);
            aims.write(mirror, aim);
            return previous;
        }

        int clean(int mirror) {
            if (!isMirror(mirror)) {
                return NO_SUCH;
            }
            int previous = dusts.read(mirror);
            dusts.write(mirror, 0);
            return previous;
        }

        int blow(int newWind) {
            if (newWind < 0 || newWind > MOST_WIND) {
                return BAD_VALUE;
            }
            wind = newWind;
            return liesFlat() ? 1 : 0;
        }

        void credit(int mirror, int number) {
            brought.write(mirror, brought.read(mirror) + number);
        }

        void endDay(int sum) {
            days++;
            broughtByAll += sum;
            for (int mirror = 0; mirror < mirrors; mirror++) {
                dusts.write(mirror, Math.min(MOST_DUST, dusts.read(mirror) + settings.read(DUST)));
            }
        }

        boolean isMirror(int mirror) {
            return mirror >= 0 && mirror < mirrors;
        }

        int mirrorIn(int row, int column) {
            for (int mirror = 0; mirror < mirrors; mirror++) {
                if (rows.read(mirror) == row && columns.read(mirror) == column) {
                    return mirror;
                }
            }
            return NONE;
        }

        int mirrorsOf(int aim) {
            int set = 0;
            for (int mirror = 0; mirror < mirrors; mirror++) {
                if (aims.read(mirror) == aim) {
                    set |= 1 << mirror;
                }
            }
            return set;
        }

        int allDust() {
            int sum = 0;
            for (int mirror = 0; mirror < mirrors; mirror++) {
                sum += dusts.read(mirror);
            }
            return sum;
        }

        boolean liesFlat() {
            return wind > settings.read(WIND);
        }
    }

    /**
     * What the sun does on a field. look() sees who stands in whose way, and has to come first after mirrors
     * came or went; work() then works out an hour.
     */
    private static final class Light {
        private final Field field;
        // The field by places: a look asks for hundreds of them, too many to search all mirrors for each.
        private final Cells places = new Cells(SIDE * SIDE);
        private final Cells shaders = new Cells(ROOM * HOURS);
        private final Cells gives = new Cells(ROOM);
        private final Cells order = new Cells(ROOM);
        private final Cells held = new Cells(AIM_POINTS);
        private int blocked = 0;
        private int used = 0;

        Light(Field field) {
            this.field = field;
        }

        void look() {
            places.fill(NONE);
            for (int mirror = 0; mirror < field.mirrors; mirror++) {
                places.write(field.rows.read(mirror) * SIDE + field.columns.read(mirror), mirror);
            }
            blocked = 0;
            for (int mirror = 0; mirror < field.mirrors; mirror++) {
                if (hasBlocker(mirror)) {
                    blocked |= 1 << mirror;
                }
                for (int hour = 0; hour < HOURS; hour++) {
                    shaders.write(mirror * HOURS + hour, nearestShader(mirror, hour));
                }
            }
        }

        private boolean hasBlocker(int mirror) {
            int row = field.rows.read(mirror);
            int column = field.columns.read(mirror);
            int rowsToTower = row - TOWER_ROW;
            for (int nearer = 1; nearer <= BLOCKING_ROWS && nearer < rowsToTower; nearer++) {
                int shift = (TOWER_COLUMN - column) * nearer;
                if (shift % rowsToTower == 0 && inPlace(row - nearer, column + shift / rowsToTower) != NONE) {
                    return true;
                }
            }
            return false;
        }

        private int nearestShader(int mirror, int hour) {
            int row = field.rows.read(mirror);
            int column = field.columns.read(mirror);
            int height = Sun.height(hour);
            for (int k = 1; k <= LONGEST_SHADE && k * height <= LONGEST_SHADE; k++) {
                int found = inPlace(row - k, column + k * Sun.columns(hour));
                if (found != NONE) {
                    return found;
                }
            }
            return NONE;
        }

        private int inPlace(int row, int column) {
            return isPlace(row, column) ? places.read(row * SIDE + column) : NONE;
        }

        /** Works out an hour, and answers what it brings. */
        int work(int hour) {
            int mirrors = field.mirrors;
            boolean flat = field.liesFlat();
            for (int mirror = 0; mirror < mirrors; mirror++) {
                gives.write(mirror, flat ? 0 : gift(mirror, hour));
                putInOrder(mirror);
            }
            held.fill(0);
            used = 0;
            int sum = 0;
            for (int rank = 0; rank < mirrors; rank++) {
                sum += useIfBearable(order.read(rank));
            }
            return sum;
        }

        private int gift(int mirror, int hour) {
            int distance = ROWS_TO_HALF + field.rows.read(mirror);
            if (isBlocked(mirror) || shader(mirror, hour) != NONE || distance <= 0) {
                return 0;
            }
            return (MOST_DUST - field.dusts.read(mirror)) * Sun.height(hour) * ROWS_TO_HALF / distance / 10;
        }

        /** The mirrors before it stand in order; of like ones it comes last, as its number is the highest. */
        private void putInOrder(int mirror) {
            int rank = mirror;
            while (rank > 0 && gives.read(order.read(rank - 1)) < gives.read(mirror)) {
                order.write(rank, order.read(rank - 1));
                rank--;
            }
            order.write(rank, mirror);
        }

        private int useIfBearable(int mirror) {
            int aim = field.aims.read(mirror);
            int sum = held.read(aim) + gives.read(mirror);
            if (sum > field.settings.read(LIMIT)) {
                return 0;
            }
            held.write(aim, sum);
            used |= 1 << mirror;
            return gives.read(mirror);
        }

        int day() {
            int sum = 0;
            for (int hour = 0; hour < HOURS; hour++) {
                sum += work(hour);
            }
            return sum;
        }

        /** Days pass. One look is enough: dust changes neither who is shaded nor who is blocked. */
        int spend(int days) {
            if (days < 1 || days > MOST_DAYS_AT_ONCE) {
                return BAD_VALUE;
            }
            if (field.days + days > MOST_DAYS) {
                return NOT_POSSIBLE;
            }
            look();
            int sum = 0;
            for (int day = 0; day < days; day++) {
                int today = 0;
                for (int hour = 0; hour < HOURS; hour++) {
                    today += work(hour);
                    creditUsed();
                }
                field.endDay(today);
                sum += today;
            }
            return sum;
        }

        private void creditUsed() {
            for (int mirror = 0; mirror < field.mirrors; mirror++) {
                if (isUsed(mirror)) {
                    field.credit(mirror, gives.read(mirror));
                }
            }
        }

        boolean isBlocked(int mirror) {
            return (blocked >> mirror & 1) != 0;
        }

        int blocked() {
            return blocked;
        }

        int shader(int mirror, int hour) {
            return shaders.read(mirror * HOURS + hour);
        }

        int given(int mirror) {
            return gives.read(mirror);
        }

        boolean isUsed(int mirror) {
            return (used >> mirror & 1) != 0;
        }

        int used() {
            return used;
        }

        int held(int aim) {
            return held.read(aim);
        }
    }

    /** The what-ifs: each is tried on a copy of the field. */
    private static final class Advice {
        private final Field field;
        private final Field trial = new Field();
        private final Light light = new Light(trial);
        private int best = NONE;
        private int bestBrings = NONE;

        Advice(Field field) {
            this.field = field;
        }

        int leastWorth(int what) {
            forgetBest();
            for (int mirror = 0; mirror < field.mirrors; mirror++) {
                trial.copy(field);
                trial.remove(mirror);
                weigh(mirror);
            }
            return answer(what);
        }

        int columnForOneMore(int row, int aim, int what) {
            forgetBest();
            for (int column = 0; column < SIDE; column++) {
                if (field.mirrorIn(row, column) == NONE) {
                    trial.copy(field);
                    trial.add(row, column, aim);
                    weigh(column);
                }
            }
            return answer(what);
        }

        int mirrorToWash() {
            forgetBest();
            for (int mirror = 0; mirror < field.mirrors; mirror++) {
                trial.copy(field);
                trial.clean(mirror);
                weigh(mirror);
            }
            return answer(0);
        }

        /** No mirror looks away just if each point can bear all of its mirrors at once. */
        int limitForAll() {
            trial.copy(field);
            trial.changeSetting(LIMIT, MOST_LIMIT);
            light.look();
            int all = (1 << trial.mirrors) - 1;
            int least = LEAST_LIMIT;
            for (int hour = 0; hour < HOURS; hour++) {
                light.work(hour);
                if (light.used() != all) {
                    return NONE;
                }
                for (int aim = 0; aim < AIM_POINTS; aim++) {
                    least = Math.max(least, light.held(aim));
                }
            }
            return least;
        }

        private void forgetBest() {
            best = NONE;
            bestBrings = NONE;
        }

        private void weigh(int candidate) {
            light.look();
            int brings = light.day();
            if (best == NONE || brings > bestBrings) {
                best = candidate;
                bestBrings = brings;
            }
        }

        private int answer(int what) {
            return what == 0 ? best : bestBrings;
        }
    }

    /** The text of orders that grows by put(). */
    private static final class Pad {
        private final Cells signs = new Cells(MOST_SIGNS);
        private int length = 0;

        int append(long characters) {
            int added = countSigns(characters);
            if (added == 0) {
                return BAD_VALUE;
            }
            if (length + added > MOST_SIGNS) {
                return TOO_MANY;
            }
            for (int index = 0; index < added; index++) {
                signs.write(length + index, signFromEnd(characters, added - 1 - index));
            }
            length += added;
            return length;
        }

        /** How many characters the number holds; 0 if it holds none, or anything but characters. */
        private static int countSigns(long characters) {
            int found = 0;
            while (found < MOST_SIGNS_AT_ONCE && characters >>> found * SIGN_BITS != 0) {
                int sign = signFromEnd(characters, found);
                if (sign < LEAST_SIGN || sign > MOST_SIGN) {
                    return 0;
                }
                found++;
            }
            return found;
        }

        private static int signFromEnd(long characters, int index) {
            return (int) (characters >>> index * SIGN_BITS) & SIGN_MASK;
        }

        int empty() {
            int previous = length;
            length = 0;
            return previous;
        }

        int length() {
            return length;
        }

        /** The sign at an index; behind the end there is the sign 0, which no text holds. */
        int sign(int index) {
            return index < length ? signs.read(index) : 0;
        }
    }

    /** Reads the orders of the pad. Once a sign cannot stand at its place, the position stays there. */
    private static final class Reader {
        private final Pad pad;
        private final Cells kinds = new Cells(MOST_SIGNS);
        private final Cells firsts = new Cells(MOST_SIGNS);
        private final Cells seconds = new Cells(MOST_SIGNS);
        private final Cells thirds = new Cells(MOST_SIGNS);
        private int orders = 0;
        private int position = 0;
        private boolean broken = false;

        Reader(Pad pad) {
            this.pad = pad;
        }

        /** Answers the fault of the pad, or NONE. */
        int read() {
            position = 0;
            broken = false;
            readOrder(0);
            orders = 1;
            while (!broken && position < pad.length() && orders < MOST_SIGNS) {
                expect(';');
                readOrder(orders);
                orders++;
            }
            return broken ? position : NONE;
        }

        private void readOrder(int order) {
            int kind = broken ? 0 : pad.sign(position);
            position += isKind(kind) ? 1 : 0;
            broken = !isKind(kind);
            int first = readNumber();
            int second = 0;
            int third = 0;
            if (kind == '+') {
                expect('.');
                second = readNumber();
                third = accept('a') ? readDigit(AIM_POINTS - 1) : 0;
            } else if (kind == 'a') {
                expect('>');
                second = readDigit(AIM_POINTS - 1);
            }
            kinds.write(order, kind);
            firsts.write(order, first);
            seconds.write(order, second);
            thirds.write(order, third);
        }

        private static boolean isKind(int sign) {
            return sign == '+' || sign == 'x' || sign == 'a' || sign == 'w' || sign == 'v' || sign == 't';
        }

        /** A digit behind a leading 0, or behind two digits, is left for what follows, which refuses it. */
        private int readNumber() {
            int first = readDigit(9);
            int next = pad.sign(position);
            boolean longer = first != 0 && next >= '0' && next <= '9';
            return longer ? first * 10 + readDigit(9) : first;
        }

        private int readDigit(int most) {
            int digit = pad.sign(position) - '0';
            if (broken || digit < 0 || digit > most) {
                broken = true;
                return 0;
            }
            position++;
            return digit;
        }

        private boolean accept(char sign) {
            boolean found = !broken && pad.sign(position) == sign;
            position += found ? 1 : 0;
            return found;
        }

        private void expect(char sign) {
            if (!accept(sign)) {
                broken = true;
            }
        }

        int orders() {
            return orders;
        }

        int kind(int order) {
            return kinds.read(order);
        }

        int first(int order) {
            return firsts.read(order);
        }

        int second(int order) {
            return seconds.read(order);
        }

        int third(int order) {
            return thirds.read(order);
        }
    }

    /** States of the field that are kept by number. */
    private static final class Shelf {
        private final Field[] states;

        Shelf(int size) {
            states = new Field[Math.max(size, 0)];
            for (int number = 0; number < states.length; number++) {
                states[number] = new Field();
            }
        }

        void keep(int number, Field field) {
            Field state = state(number);
            if (state != null) {
                state.copy(field);
            }
        }

        void bringBack(int number, Field field) {
            Field state = state(number);
            if (state != null) {
                field.copy(state);
            }
        }

        private Field state(int number) {
            return number >= 0 && number < states.length ? states[number] : null;
        }
    }

    /**
     * The states before the latest changes, in a ring. It has one state more than can be undone: the note of
     * a change that may still fail must not cost the oldest state.
     */
    private static final class History {
        private static final int RING = MOST_UNDONE + 1;

        private final Shelf states = new Shelf(RING);
        private int next = 0;
        private int size = 0;

        void note(Field field) {
            states.keep(next, field);
        }

        void keepNote() {
            next = (next + 1) % RING;
            size = Math.min(size + 1, MOST_UNDONE);
        }

        boolean stepBack(Field field) {
            if (size == 0) {
                return false;
            }
            next = (next + RING - 1) % RING;
            size--;
            states.bringBack(next, field);
            return true;
        }

        int size() {
            return size;
        }
    }
}
