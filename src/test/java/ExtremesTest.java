/** No call throws or fails to end, whatever its arguments and the state; a throw ends this program with a failure. */
final class ExtremesTest {
    private static final int[] INTS = {Integer.MIN_VALUE, Integer.MIN_VALUE + 1, -1000, -7, -2, -1, 0, 1, 2, 3, 4, 5, 9,
        10, 11, 12, 13, 19, 20, 23, 24, 25, 31, 32, 33, 63, 64, 99, 100, 999, 9999, 10000, 65536, 1 << 30,
        Integer.MAX_VALUE - 1, Integer.MAX_VALUE};

    private static int calls = 0;

    public static void main(String[] args) {
        for (int state = 0; state < 4; state++) {
            for (int a : INTS) {
                oneArgument(state, a);
                for (int b : INTS) {
                    twoArguments(state, a, b);
                    for (int c : INTS) {
                        threeArguments(state, a, b, c);
                    }
                }
            }
            for (int shift = 0; shift < 64; shift++) {
                Recorded x = object(state);
                answered("put", x.put(1L << shift), -4);
                answered("put", x.put(-1L << shift), -4);
                answered("put", x.put(-1L >>> shift), -4);
                answered("put", x.put(0x7878787878787878L >>> shift), -4);
                answered("fault", x.fault(), -6);
                answered("carryOut", x.carryOut(), -3);
            }
        }
        Check.holds("every call of " + calls + " ended", calls > 700000);
        Check.end("ExtremesTest");
    }

    /** An empty object, one of some mirrors, a full one, and a full one at its last day with a full pad. */
    private static Recorded object(int state) {
        Recorded x = new Recorded();
        int mirrors = state == 0 ? 0 : state == 1 ? 5 : 24;
        for (int number = 0; number < mirrors; number++) {
            x.mirror(number % 6 * 3, 9 + number / 6, number % 4);
        }
        if (state == 3) {
            x.set(SunMirrors.DUST, 0);
            for (int days = 0; days < 999; days += 37) {
                x.pass(37);
            }
            Check.put(x, "t99;t99;t99;t99;t99;t99;t99;t99;t99;t99;t99;t99;t99;t99;t99;t99;t99;t99;t99;t99;");
            x.save(0);
        }
        return x;
    }

    private static void answered(String call, int answer, int least) {
        calls++;
        if (answer < least) {
            Check.due(call, answer, least);
        }
    }

    private static void oneArgument(int state, int a) {
        Recorded x = object(state);
        answered("take", x.take(a), -1);
        answered("wash", x.wash(a), -1);
        answered("wind", x.wind(a), -2);
        answered("pass", x.pass(a), -5);
        answered("count", x.count(a), -2);
        answered("worthLeast", x.worthLeast(a), -6);
        answered("save", x.save(a), -2);
        answered("restore", x.restore(a), -5);
        answered("put", x.put(a), -4);
        answered("toWash", x.toWash(), -6);
        answered("leastLimit", x.leastLimit(), -6);
        answered("undo", x.undo(), -5);
        answered("wipe", x.wipe(), 0);
    }

    private static Recorded of = null;
    private static int ofState = -1;

    /** The object of a state, made anew before it has had 512 calls. */
    private static Recorded usedObject(int state) {
        if (of == null || ofState != state || of.calls() > 500) {
            of = object(state);
            ofState = state;
        }
        return of;
    }

    private static void twoArguments(int state, int a, int b) {
        Recorded x = usedObject(state);
        answered("set", x.set(a, b), -2);
        answered("aim", x.aim(a, b), -2);
        answered("of", x.of(a, b), -2);
        answered("in", x.in(a, b), -6);
    }

    private static void threeArguments(int state, int a, int b, int c) {
        Recorded x = usedObject(state);
        answered("mirror", x.mirror(a, b, c), -5);
        answered("at", x.at(a, b, c), -6);
        answered("point", x.point(a, b, c), -2);
        answered("bestColumn", x.bestColumn(a, b, c), -6);
    }
}
