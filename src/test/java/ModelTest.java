/** Long runs of calls, each on the program and on the model: they have to answer alike. */
final class ModelTest {
    private static final int RUNS = 200;
    /** From then on an object is not used further: what comes next may take the calls up to the 512th. */
    private static final int CALLS = 400;

    private final Numbers numbers;
    private final Recorded program = new Recorded();
    private final Model model = new Model();
    /** How wide the mirrors of this run stand: narrow ones shade and block one another more. */
    private final int width;
    private final int left;
    private final String name;

    private ModelTest(int run) {
        numbers = new Numbers(run);
        width = 3 + numbers.below(18);
        left = numbers.below(21 - Math.min(20, width));
        name = "run " + run + ": ";
    }

    /** Numbers that look random and are the same each time. */
    private static final class Numbers {
        private long state;

        Numbers(long seed) {
            state = seed * 7919 + 12345;
        }

        int below(int bound) {
            state = state * 6364136223846793005L + 1442695040888963407L;
            return (int) ((state >>> 33) % bound);
        }
    }

    public static void main(String[] args) {
        for (int run = 1; run <= RUNS; run++) {
            ModelTest test = new ModelTest(run);
            while (test.program.calls() < CALLS) {
                test.call();
            }
        }
        for (int run = 1; run <= 2 * RUNS; run++) {
            new ModelTest(RUNS + run).texts();
        }
        Check.end("ModelTest");
    }

    private void due(String call, long got, long want) {
        Check.due(name + call, got, want);
    }

    /** Mostly what is in range, sometimes beside it, seldom far off. */
    private int number(int bound) {
        int way = numbers.below(60);
        if (way == 0) {
            return -1;
        }
        if (way == 1) {
            return bound;
        }
        if (way == 2) {
            return numbers.below(2) == 0 ? Integer.MIN_VALUE : Integer.MAX_VALUE;
        }
        return numbers.below(bound);
    }

    private int column() {
        return numbers.below(10) == 0 ? number(20) : Math.min(19, left + numbers.below(width));
    }

    private int mirrorNumber() {
        return number(Math.max(1, program.count(1)));
    }

    private void call() {
        int way = numbers.below(100);
        if (way < 25) {
            place();
        } else if (way < 55) {
            change(way);
        } else if (way < 66) {
            text();
        } else if (way < 74) {
            back();
        } else {
            ask();
        }
    }

    private void place() {
        int row = numbers.below(3) == 0 ? number(20) : numbers.below(8);
        int column = column();
        int aim = numbers.below(3) == 0 ? number(4) : 0;
        due("mirror(" + row + ", " + column + ", " + aim + ")", program.mirror(row, column, aim),
            model.call("mirror", row, column, aim));
    }

    private void change(int way) {
        int mirror = mirrorNumber();
        if (way < 30) {
            due("take(" + mirror + ")", program.take(mirror), model.call("take", mirror));
        } else if (way < 35) {
            int aim = number(4);
            due("aim(" + mirror + ", " + aim + ")", program.aim(mirror, aim), model.call("aim", mirror, aim));
        } else if (way < 40) {
            due("wash(" + mirror + ")", program.wash(mirror), model.call("wash", mirror));
        } else if (way < 44) {
            int wind = numbers.below(3) == 0 ? number(100) : numbers.below(51);
            due("wind(" + wind + ")", program.wind(wind), model.call("wind", wind));
        } else if (way < 49) {
            int days = numbers.below(8) == 0 ? number(100) : 1 + numbers.below(6);
            due("pass(" + days + ")", program.pass(days), model.call("pass", days));
        } else {
            int setting = numbers.below(2) == 0 ? 0 : number(3);
            int[] bounds = {500, 100, 21};
            int value = number(setting >= 0 && setting < 3 ? bounds[setting] : 50);
            due("set(" + setting + ", " + value + ")", program.set(setting, value), model.call("set", setting, value));
        }
    }

    private void text() {
        int way = numbers.below(9);
        if (way == 0) {
            due("wipe()", program.wipe(), model.wipe());
        } else if (way < 3) {
            due("fault()", program.fault(), model.fault());
        } else if (way < 5) {
            due("carryOut()", program.carryOut(), model.carryOut());
        } else if (way == 5) {
            long any = (long) numbers.below(Integer.MAX_VALUE) << numbers.below(34) | numbers.below(256);
            due("put(" + any + ")", program.put(any), model.put(any));
        } else {
            if (program.count(11) > 40 || model.fault() >= 0) {
                due("wipe()", program.wipe(), model.wipe());
            }
            putAll((program.count(11) > 0 ? ";" : "") + orders(1 + numbers.below(5)));
        }
    }

    private void putAll(String text) {
        for (int from = 0; from < text.length();) {
            int to = Math.min(text.length(), from + 1 + numbers.below(8));
            long packed = Check.packed(text.substring(from, to));
            due("put(" + packed + ")", program.put(packed), model.put(packed));
            from = to;
        }
    }

    private String orders(int count) {
        StringBuilder text = new StringBuilder();
        for (int number = 0; number < count; number++) {
            text.append(number == 0 ? "" : ";");
            int mirror = numbers.below(10) == 0 ? numbers.below(100) : numbers.below(Math.max(1, program.count(1)));
            switch (numbers.below(7)) {
                case 0: text.append('x').append(mirror); break;
                case 1: text.append('a').append(mirror).append('>').append(numbers.below(4)); break;
                case 2: text.append('w').append(mirror); break;
                case 3: text.append('v').append(numbers.below(60)); break;
                case 4: text.append('t').append(numbers.below(8)); break;
                case 5: text.append('+').append(numbers.below(22)).append('.').append(Math.max(0, column())); break;
                default: text.append('+').append(numbers.below(20)).append('.').append(numbers.below(20)).append('a')
                    .append(numbers.below(4)); break;
            }
        }
        return text.toString();
    }

    private void back() {
        int way = numbers.below(4);
        int slot = number(2);
        if (way < 2) {
            due("undo()", program.undo(), model.undo());
        } else if (way == 2) {
            due("save(" + slot + ")", program.save(slot), model.save(slot));
        } else {
            due("restore(" + slot + ")", program.restore(slot), model.restore(slot));
        }
    }

    private void ask() {
        int what = number(13);
        int hour = number(11);
        int mirror = mirrorNumber();
        switch (numbers.below(14)) {
            case 0: case 1: due("count(" + what + ")", program.count(what), model.count(what)); break;
            case 2: case 3: what = number(6);
                due("of(" + mirror + ", " + what + ")", program.of(mirror, what), model.of(mirror, what)); break;
            case 4: case 5: case 6: what = number(4);
                due("at(" + mirror + ", " + hour + ", " + what + ")", program.at(mirror, hour, what),
                    model.at(mirror, hour, what)); break;
            case 7: case 8: what = number(3);
                int aim = number(4);
                due("point(" + aim + ", " + hour + ", " + what + ")", program.point(aim, hour, what),
                    model.point(aim, hour, what)); break;
            case 9: int row = number(20);
                int column = column();
                due("in(" + row + ", " + column + ")", program.in(row, column), model.place(row, column)); break;
            default: whatIf(number(2)); break;
        }
    }

    private void whatIf(int what) {
        int row = numbers.below(2) == 0 ? number(20) : numbers.below(8);
        int aim = number(4);
        switch (numbers.below(5)) {
            case 0: due("worthLeast(" + what + ")", program.worthLeast(what), model.worthLeast(what)); break;
            case 1: due("bestColumn(" + row + ", " + aim + ", " + what + ")", program.bestColumn(row, aim, what),
                model.bestColumn(row, aim, what)); break;
            case 2: due("toWash()", program.toWash(), model.toWash()); break;
            case 3: due("leastLimit()", program.leastLimit(), model.leastLimit()); break;
            default: due("count(5)", program.count(5), model.count(5)); break;
        }
    }

    /** Texts that are nearly right: one sign of a right one is changed, left out, or put in. */
    private void texts() {
        String signs = "+xawvt.;>0123456789a~!:/b";
        while (program.calls() < CALLS) {
            StringBuilder text = new StringBuilder(orders(1 + numbers.below(12)));
            int changes = numbers.below(3);
            for (int change = 0; change < changes && text.length() > 0; change++) {
                int index = numbers.below(text.length());
                char sign = signs.charAt(numbers.below(signs.length()));
                switch (numbers.below(4)) {
                    case 0: text.setCharAt(index, sign); break;
                    case 1: text.deleteCharAt(index); break;
                    case 2: text.insert(index, sign); break;
                    default: text.setLength(index); break;
                }
            }
            putAll(text.toString());
            due(text + ": fault()", program.fault(), model.fault());
            due(text + ": carryOut()", program.carryOut(), model.carryOut());
            due("count(1)", program.count(1), model.count(1));
            due("wipe()", program.wipe(), model.wipe());
        }
    }
}
