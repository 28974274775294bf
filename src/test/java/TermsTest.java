/** The sentences of "What it is" and "Terms": conventions, sun, field, what mirrors give, aim points, days. */
final class TermsTest {
    private static final int NONE = SunMirrors.NONE;
    /** What a clean mirror in row 0 gives in the hours 0 to 10. */
    private static final int[] ROW_0 = {10, 20, 30, 40, 50, 60, 50, 40, 30, 20, 10};
    /** How many times what the sun stands towards a shade is long, by hours: 6 / (1 to 6 to 1). */
    private static final int[] REACHES = {6, 3, 2, 1, 1, 1, 1, 1, 2, 3, 6};

    public static void main(String[] args) {
        sentences();
        Check.end("TermsTest");
    }

    static void sentences() {
        calls();
        conventions();
        sun();
        field();
        shaded();
        blocked();
        gives();
        aimPoints();
        days();
    }

    private static void calls() {
        Check.sentence("What it is: an object is used for 512 calls: changes", () -> {
            Recorded x = new Recorded();
            for (int number = 0; number < 170; number++) {
                Check.due("mirror", x.mirror(number % 20, number % 7, 0), 0);
                Check.due("wind", x.wind(number % 51), 0);
                Check.due("take", x.take(0), 0);
            }
            Check.due("the 511th call", x.undo(), 5);
            Check.due("the 512th call", x.count(1), 1);
        });
        Check.sentence("What it is: an object is used for 512 calls: texts", () -> {
            Recorded x = new Recorded();
            for (int number = 0; number < 128; number++) {
                Check.due("put", x.put('v' << 8 | '0' + number % 10), 2);
                Check.due("fault", x.fault(), NONE);
                Check.due("carryOut", x.carryOut(), 1);
                Check.due("count", x.count(2), number % 10);
            }
        });
        Check.sentence("What it is: an object is used for 512 calls: what if", () -> {
            Recorded x = Recorded.full();
            for (int number = 0; number < 122; number++) {
                Check.due("worthLeast", x.worthLeast(0), 20);
                Check.due("bestColumn", x.bestColumn(10, 0, 0) >= 0 ? 1 : 0, 1);
                Check.due("toWash", x.toWash(), 0);
                Check.due("leastLimit", x.leastLimit(), 330);
            }
        });
        Check.sentence("What it is: an object is used for 512 calls: saving", () -> {
            Recorded x = Recorded.full();
            for (int number = 0; number < 97; number++) {
                Check.due("save", x.save(number & 1), 24);
                Check.due("take", x.take(0), 23);
                Check.due("restore", x.restore(number & 1), 24);
                Check.due("undo", x.undo(), 5);
                Check.due("undo", x.undo(), 4);
            }
        });
    }

    /** Four mirrors with dust, a wind, a full history, saved states in both slots, and a text on the pad. */
    private static Recorded rich() {
        Recorded x = Recorded.with(new int[][] {{5, 10, 0}, {3, 10, 1}, {4, 11, 2}});
        x.pass(4);
        x.save(1);
        x.mirror(12, 2, 3);
        x.set(SunMirrors.DUST, 7);
        x.pass(3);
        x.wash(1);
        x.save(0);
        x.set(SunMirrors.LIMIT, 30);
        x.wind(48);
        x.set(SunMirrors.WIND, 49);
        x.aim(2, 1);
        Check.put(x, "w0;t2;x3");
        return x;
    }

    /** A full field at its last day with a full pad, which has no fault. */
    private static Recorded fullOfAll() {
        Recorded x = Recorded.full();
        for (int times = 0; times < 11; times++) {
            x.pass(times < 10 ? 99 : 9);
        }
        Check.put(x, "x0;x0;x0;x0;x0;x0;x0;x0;x0;x0;x0;x0;x0;x0;x0;x0;x0;x0;x0;x0;x0;x0;x0;x0;x0;x0;x0");
        return x;
    }

    private static void conventions() {
        Check.sentence("Terms: the first error that applies is returned", TermsTest::firstError);
        Check.sentence("Terms: a call that returns an error changes nothing: changes", TermsTest::refusedChanges);
        Check.sentence("Terms: a call that returns an error changes nothing: what there is", TermsTest::refusedAsking);
        Check.sentence("Terms: a call that returns an error changes nothing: texts and saving", TermsTest::refusedRest);
        Check.sentence("Terms: a call that returns an error changes nothing: what is full", TermsTest::refusedFull);
        Check.sentence("Terms: NONE is returned only if no error applies", () -> {
            Recorded x = Recorded.with(new int[][] {{0, 0, 0}});
            Check.due("in(0, 1)", x.in(0, 1), NONE);
            Check.due("in(0, 20)", x.in(0, 20), SunMirrors.NO_SUCH);
            Check.due("at(0, 5, 3)", x.at(0, 5, 3), NONE);
            Check.due("at(1, 5, 3)", x.at(1, 5, 3), SunMirrors.NO_SUCH);
            Check.due("at(0, 11, 3)", x.at(0, 11, 3), SunMirrors.NO_SUCH);
            Recorded empty = new Recorded();
            Check.due("worthLeast(0)", empty.worthLeast(0), NONE);
            Check.due("worthLeast(2)", empty.worthLeast(2), SunMirrors.BAD_VALUE);
            Recorded row = Recorded.full();
            Check.due("bestColumn(0, 0, 0)", row.bestColumn(0, 0, 0), NONE);
            Check.due("bestColumn(0, 4, 0)", row.bestColumn(0, 4, 0), SunMirrors.BAD_VALUE);
            Check.due("bestColumn(0, 0, 2)", row.bestColumn(0, 0, 2), SunMirrors.BAD_VALUE);
        });
        Check.sentence("Terms: everything is numbered from 0", () -> {
            Recorded x = new Recorded();
            Check.due("the first mirror", x.mirror(0, 0, 0), 0);
            Check.due("the second mirror", x.mirror(0, 1, 0), 1);
            Check.due("in(0, 0)", x.in(0, 0), 0);
            Check.due("of(0, 0)", x.of(0, 0), 0);
            Check.due("at(0, 0, 1)", x.at(0, 0, 1), 10);
            Check.due("point(0, 0, 1)", x.point(0, 0, 1), 3);
            Check.due("set(0, 300)", x.set(0, 300), 400);
            Check.due("save(0)", x.save(0), 2);
            Check.due("restore(0)", x.restore(0), 2);
            Check.put(x, "!");
            Check.due("the first character", x.fault(), 0);
            Check.due("of(-1, 0)", x.of(-1, 0), SunMirrors.NO_SUCH);
            Check.due("of(2, 0)", x.of(2, 0), SunMirrors.NO_SUCH);
        });
        Check.sentence("Terms: sets of mirrors are bit masks", () -> {
            Recorded x = Recorded.full();
            for (int aim = 0; aim <= 3; aim++) {
                Check.due("point(" + aim + ", 0, 1)", x.point(aim, 0, 1), 0x111111 << aim);
                Check.due("point(" + aim + ", 0, 2)", x.point(aim, 0, 2), 0x111111 << aim);
            }
            x.take(23);
            Check.due("blocked by (0, 10)", x.mirror(1, 10, 0), 23);
            Check.due("count(6)", x.count(6), 1 << 23);
            Check.due("point(0, 0, 1)", x.point(0, 0, 1), 0x111111 | 1 << 23);
        });
        Check.sentence("Terms: divisions are rounded down", () -> {
            Recorded x = Recorded.with(new int[][] {{1, 0, 0}, {19, 19, 0}});
            Check.due("100 * 6 * 20 / 21 / 10 is 57.1", x.at(0, 5, 1), 57);
            Check.due("100 * 5 * 20 / 21 / 10 is 47.6", x.at(0, 4, 1), 47);
            Check.due("100 * 5 * 20 / 39 / 10 is 25.6", x.at(1, 4, 1), 25);
            x.set(SunMirrors.DUST, 19);
            x.pass(5);
            Check.due("5 * 6 * 20 / 21 / 10 is 2.9", x.at(0, 5, 1), 2);
            Check.due("5 * 3 * 20 / 39 / 10 is 0.8", x.at(1, 2, 1), 0);
        });
    }

    private static void firstError() {
        Recorded x = fullOfAll();
        Check.due("no row, taken, full", x.mirror(20, 0, 0), SunMirrors.BAD_VALUE);
        Check.due("no aim point, taken, full", x.mirror(0, 0, 4), SunMirrors.BAD_VALUE);
        Check.due("no aim point, full", x.mirror(5, 5, -1), SunMirrors.BAD_VALUE);
        Check.due("taken, full", x.mirror(19, 3, 0), SunMirrors.NOT_POSSIBLE);
        Check.due("full", x.mirror(19, 4, 0), SunMirrors.TOO_MANY);
        Check.due("no mirror, no aim point", x.aim(24, 4), SunMirrors.NO_SUCH);
        Check.due("no days, too many", x.pass(100), SunMirrors.BAD_VALUE);
        Check.due("no days", x.pass(0), SunMirrors.BAD_VALUE);
        Check.due("too many days", x.pass(1), SunMirrors.NOT_POSSIBLE);
        Check.due("no mirror, no what", x.of(24, 6), SunMirrors.NO_SUCH);
        Check.due("no mirror, no hour, no what", x.at(24, 11, 4), SunMirrors.NO_SUCH);
        Check.due("no hour, no what", x.at(0, -1, -1), SunMirrors.NO_SUCH);
        Check.due("no aim point, no hour, no what", x.point(4, 11, 3), SunMirrors.NO_SUCH);
        Check.due("no hour, no what", x.point(0, 11, 3), SunMirrors.NO_SUCH);
        Check.due("no aim point, no what", x.point(-1, 0, -1), SunMirrors.NO_SUCH);
        Check.due("no character, full pad", x.put(0), SunMirrors.BAD_VALUE);
        Check.due("no code, full pad", x.put(127), SunMirrors.BAD_VALUE);
        Check.due("full pad", x.put('x'), SunMirrors.TOO_MANY);
        Check.due("no slot, nothing saved", x.restore(2), SunMirrors.BAD_VALUE);
        Check.due("nothing saved", x.restore(1), SunMirrors.NOT_POSSIBLE);
    }

    private static void refusedChanges() {
        Recorded x = rich();
        Check.changesNothing("set: no setting", x, () -> x.set(3, 5), SunMirrors.BAD_VALUE);
        Check.changesNothing("set: LIMIT too small", x, () -> x.set(SunMirrors.LIMIT, 0), SunMirrors.BAD_VALUE);
        Check.changesNothing("set: WIND too large", x, () -> x.set(SunMirrors.WIND, 100), SunMirrors.BAD_VALUE);
        Check.changesNothing("set: DUST too small", x, () -> x.set(SunMirrors.DUST, -1), SunMirrors.BAD_VALUE);
        Check.changesNothing("mirror: no row", x, () -> x.mirror(-1, 0, 0), SunMirrors.BAD_VALUE);
        Check.changesNothing("mirror: no column", x, () -> x.mirror(0, 20, 0), SunMirrors.BAD_VALUE);
        Check.changesNothing("mirror: no aim point", x, () -> x.mirror(0, 0, 4), SunMirrors.BAD_VALUE);
        Check.changesNothing("mirror: taken", x, () -> x.mirror(5, 10, 3), SunMirrors.NOT_POSSIBLE);
        Check.changesNothing("take: no mirror", x, () -> x.take(4), SunMirrors.NO_SUCH);
        Check.changesNothing("take: no mirror", x, () -> x.take(-1), SunMirrors.NO_SUCH);
        Check.changesNothing("aim: no mirror", x, () -> x.aim(4, 0), SunMirrors.NO_SUCH);
        Check.changesNothing("aim: no aim point", x, () -> x.aim(1, 4), SunMirrors.BAD_VALUE);
        Check.changesNothing("wash: no mirror", x, () -> x.wash(4), SunMirrors.NO_SUCH);
        Check.changesNothing("wind: too small", x, () -> x.wind(-1), SunMirrors.BAD_VALUE);
        Check.changesNothing("wind: too large", x, () -> x.wind(100), SunMirrors.BAD_VALUE);
        Check.changesNothing("pass: too small", x, () -> x.pass(0), SunMirrors.BAD_VALUE);
        Check.changesNothing("pass: too large", x, () -> x.pass(100), SunMirrors.BAD_VALUE);
    }

    private static void refusedAsking() {
        Recorded x = rich();
        Check.changesNothing("of: no mirror", x, () -> x.of(4, 0), SunMirrors.NO_SUCH);
        Check.changesNothing("of: no what", x, () -> x.of(0, 6), SunMirrors.BAD_VALUE);
        Check.changesNothing("at: no mirror", x, () -> x.at(4, 0, 0), SunMirrors.NO_SUCH);
        Check.changesNothing("at: no hour", x, () -> x.at(0, 11, 0), SunMirrors.NO_SUCH);
        Check.changesNothing("at: no what", x, () -> x.at(0, 0, 4), SunMirrors.BAD_VALUE);
        Check.changesNothing("point: no aim point", x, () -> x.point(4, 0, 0), SunMirrors.NO_SUCH);
        Check.changesNothing("point: no hour", x, () -> x.point(0, 11, 0), SunMirrors.NO_SUCH);
        Check.changesNothing("point: no what", x, () -> x.point(0, 0, 3), SunMirrors.BAD_VALUE);
        Check.changesNothing("count: no what", x, () -> x.count(13), SunMirrors.BAD_VALUE);
        Check.changesNothing("in: no place", x, () -> x.in(20, 0), SunMirrors.NO_SUCH);
        Check.changesNothing("worthLeast: no what", x, () -> x.worthLeast(2), SunMirrors.BAD_VALUE);
        Check.changesNothing("bestColumn: no row", x, () -> x.bestColumn(20, 0, 0), SunMirrors.BAD_VALUE);
        Check.changesNothing("bestColumn: no aim point", x, () -> x.bestColumn(0, 4, 0), SunMirrors.BAD_VALUE);
        Check.changesNothing("bestColumn: no what", x, () -> x.bestColumn(0, 0, 2), SunMirrors.BAD_VALUE);
    }

    private static void refusedRest() {
        Recorded x = rich();
        Check.changesNothing("put: no character", x, () -> x.put(0), SunMirrors.BAD_VALUE);
        Check.changesNothing("put: no code at the end", x, () -> x.put(';' << 8 | 127), SunMirrors.BAD_VALUE);
        Check.changesNothing("put: no code at the start", x, () -> x.put(32 << 8 | ';'), SunMirrors.BAD_VALUE);
        Check.changesNothing("put: above 8 bits", x, () -> x.put(';' << 16 | ';'), SunMirrors.BAD_VALUE);
        Check.changesNothing("save: no slot", x, () -> x.save(2), SunMirrors.BAD_VALUE);
        Check.changesNothing("restore: no slot", x, () -> x.restore(2), SunMirrors.BAD_VALUE);
        Check.put(x, ";");
        Check.changesNothing("carryOut: a fault", x, () -> x.carryOut(), SunMirrors.BAD_TEXT);
        x.wipe();
        Check.changesNothing("carryOut: no text", x, () -> x.carryOut(), SunMirrors.BAD_TEXT);
        Recorded y = Recorded.with(new int[][] {{4, 4, 0}});
        Check.put(y, "x0");
        y.undo();
        y.save(1);
        Check.changesNothing("undo: nothing", y, () -> y.undo(), SunMirrors.NOT_POSSIBLE);
        Check.changesNothing("restore: nothing", y, () -> y.restore(0), SunMirrors.NOT_POSSIBLE);
    }

    private static void refusedFull() {
        Recorded x = fullOfAll();
        Check.changesNothing("mirror: full", x, () -> x.mirror(7, 7, 0), SunMirrors.TOO_MANY);
        Check.changesNothing("mirror: taken", x, () -> x.mirror(19, 3, 0), SunMirrors.NOT_POSSIBLE);
        Check.changesNothing("pass: too many days", x, () -> x.pass(1), SunMirrors.NOT_POSSIBLE);
        Check.changesNothing("put: full", x, () -> x.put(';'), SunMirrors.TOO_MANY);
        Check.changesNothing("take: no mirror", x, () -> x.take(24), SunMirrors.NO_SUCH);
    }

    private static void sun() {
        Check.sentence("Sun: there are the hours 0 to 10 of a day", () -> {
            Recorded x = Recorded.with(new int[][] {{0, 0, 0}});
            for (int hour = 0; hour <= 10; hour++) {
                Check.due("at(0, " + hour + ", 1)", x.at(0, hour, 1), ROW_0[hour]);
            }
            Check.due("at(0, -1, 1)", x.at(0, -1, 1), SunMirrors.NO_SUCH);
            Check.due("at(0, 11, 1)", x.at(0, 11, 1), SunMirrors.NO_SUCH);
            Check.due("a day has all of them", x.count(5), 360);
        });
        Check.sentence("Sun: it stands 6 less |h - 5| high (1 to 6)", () -> {
            int[] highs = {1, 2, 3, 4, 5, 6, 5, 4, 3, 2, 1};
            Recorded x = Recorded.with(new int[][] {{10, 3, 0}});
            for (int hour = 0; hour <= 10; hour++) {
                Check.due("hour " + hour, x.at(0, hour, 1), 2000 * highs[hour] / 30 / 10);
            }
        });
        Check.sentence("Sun: it stands towards (5 - h, -1)", () -> {
            for (int hour = 0; hour <= 10; hour++) {
                int towards = 5 - hour;
                Recorded x = Recorded.with(new int[][] {{12, 8, 0}, {11, 8 + towards, 0}});
                for (int other = 0; other <= 10; other++) {
                    Check.due("up in the sun of " + hour + ", hour " + other, x.at(0, other, 0), other == hour ? 1 : 0);
                }
                Recorded y = Recorded.with(new int[][] {{12, 8, 0}, {13, 8 + towards, 0}});
                Check.due("a greater row, hour " + hour, y.at(0, hour, 0), 0);
            }
        });
    }

    private static void field() {
        Check.sentence("Field: the tower stands in the row -2, in the column 10", TermsTest::blockedEverywhere);
        Check.sentence("Field: there are up to 24 mirrors", () -> {
            Recorded x = new Recorded();
            for (int number = 0; number < 24; number++) {
                Check.due("mirror " + number, x.mirror(number % 20, number / 20, 0), number);
            }
            Check.due("24 mirrors", x.count(1), 24);
            Check.due("one more", x.mirror(10, 10, 0), SunMirrors.TOO_MANY);
        });
        Check.sentence("Field: they are numbered in the order in which they came", () -> {
            Recorded x = Recorded.with(new int[][] {{9, 9, 0}, {0, 0, 0}, {19, 19, 0}, {5, 0, 0}});
            Check.due("in(9, 9)", x.in(9, 9), 0);
            Check.due("in(0, 0)", x.in(0, 0), 1);
            Check.due("in(19, 19)", x.in(19, 19), 2);
            Check.due("in(5, 0)", x.in(5, 0), 3);
        });
        Check.sentence("Field: when one is taken away, those behind it move up", () -> {
            for (int taken = 0; taken < 24; taken++) {
                Recorded x = Recorded.full();
                x.take(taken);
                for (int number = 0; number < 23; number++) {
                    int was = number < taken ? number : number + 1;
                    Check.due("without " + taken + ": row", x.of(number, 0), was / 20 * 19);
                    Check.due("without " + taken + ": column", x.of(number, 1), was % 20);
                    Check.due("without " + taken + ": aim point", x.of(number, 2), was % 4);
                }
                Check.due("without " + taken + ": the last", x.of(23, 0), SunMirrors.NO_SUCH);
            }
        });
        Check.sentence("Field: one mirror in a place", () -> {
            Recorded x = Recorded.with(new int[][] {{0, 19, 0}, {1, 0, 0}});
            Check.due("mirror(0, 19, 1)", x.mirror(0, 19, 1), SunMirrors.NOT_POSSIBLE);
            Check.due("mirror(1, 0, 0)", x.mirror(1, 0, 0), SunMirrors.NOT_POSSIBLE);
            Check.due("the same row", x.mirror(0, 0, 0), 2);
            Check.due("the same column", x.mirror(1, 19, 0), 3);
        });
        Check.sentence("Field: dust is 0 at first", () -> {
            Recorded x = Recorded.with(new int[][] {{0, 0, 0}});
            Check.due("of(0, 3)", x.of(0, 3), 0);
            x.pass(9);
            x.take(0);
            Check.due("a new one where one with dust was", x.mirror(0, 0, 0), 0);
            Check.due("of(0, 3)", x.of(0, 3), 0);
        });
        Check.sentence("Field: dust is 100 at most", () -> {
            Recorded x = Recorded.with(new int[][] {{0, 0, 0}});
            x.set(SunMirrors.DUST, 20);
            x.pass(4);
            Check.due("4 * 20", x.of(0, 3), 80);
            x.pass(1);
            Check.due("5 * 20", x.of(0, 3), 100);
            x.pass(1);
            Check.due("6 * 20", x.of(0, 3), 100);
            x.pass(99);
            Check.due("105 * 20", x.of(0, 3), 100);
            x.wash(0);
            x.set(SunMirrors.DUST, 19);
            x.pass(5);
            Check.due("5 * 19", x.of(0, 3), 95);
            x.pass(1);
            Check.due("6 * 19 is above it", x.of(0, 3), 100);
        });
    }

    private static void shaded() {
        Check.sentence("Field: shaded: k is 1 or more", () -> {
            Recorded x = Recorded.with(new int[][] {{10, 9, 0}});
            for (int hour = 0; hour <= 10; hour++) {
                Check.due("not by itself, hour " + hour, x.at(0, hour, 0), 0);
            }
            for (int hour = 0; hour <= 10; hour++) {
                Recorded y = Recorded.with(new int[][] {{10, 9, 0}, {9, 14 - hour, 0}});
                Check.due("1 time, hour " + hour, y.at(0, hour, 0), 1);
            }
        });
        Check.sentence("Field: shaded: k is not more than 6 / (how high the sun stands)", () -> {
            for (int hour = 0; hour <= 10; hour++) {
                int column = hour < 5 ? 0 : hour > 5 ? 19 : 9;
                for (int k = 1; k <= 7; k++) {
                    int shade = column + k * (5 - hour);
                    if (shade >= 0 && shade < 20) {
                        Recorded x = Recorded.with(new int[][] {{12, column, 0}, {12 - k, shade, 0}});
                        Check.due("hour " + hour + ", " + k + " times", x.at(0, hour, 0), k <= REACHES[hour] ? 1 : 0);
                    }
                }
            }
        });
        Check.sentence("Field: shaded: only by a place of the plain", () -> {
            for (int row = 1; row < 20; row++) {
                Recorded x = Recorded.with(new int[][] {{row, 0, 0}, {row, 19, 0}, {row - 1, 19, 0}, {row - 1, 0, 0}});
                for (int hour = 0; hour <= 10; hour++) {
                    Check.due("row " + row + ", left, hour " + hour, x.at(0, hour, 3), hour == 5 ? 3 : NONE);
                    Check.due("row " + row + ", right, hour " + hour, x.at(1, hour, 3), hour == 5 ? 2 : NONE);
                }
            }
            Recorded y = Recorded.with(new int[][] {{2, 3, 0}, {0, 17, 0}, {0, 18, 0}, {0, 19, 0}, {1, 0, 0}});
            for (int hour = 7; hour <= 9; hour++) {
                Check.due("hour " + hour, y.at(0, hour, 3), hour == 8 ? 4 : NONE);
            }
        });
        Check.sentence("Field: shaded: no mirror in row 0 is, one in row 1 is by row 0", () -> {
            Recorded x = Recorded.with(new int[][] {{0, 9, 0}, {1, 9, 0}, {0, 8, 0}, {0, 10, 0}, {19, 9, 0}});
            for (int hour = 0; hour <= 10; hour++) {
                Check.due("row 0, hour " + hour, x.at(0, hour, 0), 0);
                Check.due("row 1, hour " + hour, x.at(1, hour, 0), hour >= 4 && hour <= 6 ? 1 : 0);
            }
        });
        Check.sentence("Field: shaded: by every place that is told, and no other", TermsTest::shadedEverywhere);
    }

    /** Some places, and all others up to 7 rows before and 1 behind them, by the words of the document. */
    private static void shadedEverywhere() {
        int[][] places = {{0, 0}, {0, 19}, {1, 0}, {1, 10}, {1, 19}, {2, 3}, {6, 0}, {6, 9}, {7, 19}, {13, 5}, {19, 0},
            {19, 12}, {19, 19}};
        for (int[] place : places) {
            for (int row = Math.max(0, place[0] - 7); row <= Math.min(19, place[0] + 1); row++) {
                int wrong = 0;
                Recorded x = null;
                for (int column = 0; column < 20; column++) {
                    if (column % 10 == 0) {
                        x = Recorded.with(new int[][] {{place[0], place[1], 0}});
                    }
                    if (x.mirror(row, column, 0) == 1) {
                        for (int hour = 0; hour <= 10; hour++) {
                            boolean is = isShade(place[0] - row, column - place[1], hour);
                            wrong += x.at(0, hour, 0) == (is ? 1 : 0) ? 0 : 1;
                        }
                        x.take(1);
                    }
                }
                Check.due("wrong at (" + place[0] + ", " + place[1] + ") by row " + row, wrong, 0);
            }
        }
    }

    private static boolean isShade(int up, int right, int hour) {
        for (int k = 1; k <= REACHES[hour]; k++) {
            if (up == k && right == k * (5 - hour)) {
                return true;
            }
        }
        return false;
    }

    private static int blocked(int row, int column, int otherRow, int otherColumn) {
        return Recorded.with(new int[][] {{otherRow, otherColumn, 0}, {row, column, 0}}).of(1, 4);
    }

    private static void blocked() {
        Check.sentence("Field: blocked: by another mirror", () -> {
            Recorded x = Recorded.with(new int[][] {{10, 10, 0}});
            Check.due("not by itself", x.of(0, 4), 0);
            x.mirror(8, 10, 0);
            Check.due("by another", x.of(0, 4), 1);
            Check.due("the other is not", x.of(1, 4), 0);
            x.take(1);
            Check.due("when the other is gone", x.of(0, 4), 0);
        });
        Check.sentence("Field: blocked: exactly on the straight line", () -> {
            for (int column = 0; column < 20; column++) {
                Check.due("(18, 0) by (14, " + column + ")", blocked(18, 0, 14, column), column == 2 ? 1 : 0);
                Check.due("(18, 0) by (16, " + column + ")", blocked(18, 0, 16, column), column == 1 ? 1 : 0);
                Check.due("(18, 0) by (15, " + column + ")", blocked(18, 0, 15, column), 0);
                Check.due("(18, 0) by (17, " + column + ")", blocked(18, 0, 17, column), 0);
                Check.due("(6, 18) by (5, " + column + ")", blocked(6, 18, 5, column), column == 17 ? 1 : 0);
                Check.due("(1, 13) by (0, " + column + ")", blocked(1, 13, 0, column), column == 12 ? 1 : 0);
                Check.due("(2, 8) by (0, " + column + ")", blocked(2, 8, 0, column), column == 9 ? 1 : 0);
                Check.due("(2, 8) by (1, " + column + ")", blocked(2, 8, 1, column), 0);
            }
        });
        Check.sentence("Field: blocked: at most 4 rows nearer to the tower", () -> {
            for (int nearer = 1; nearer <= 19; nearer++) {
                Check.due(nearer + " rows nearer", blocked(19, 10, 19 - nearer, 10), nearer <= 4 ? 1 : 0);
            }
            Check.due("(4, 10) by (0, 10)", blocked(4, 10, 0, 10), 1);
            Check.due("(5, 10) by (0, 10)", blocked(5, 10, 0, 10), 0);
            Check.due("(8, 0) by (4, 4)", blocked(8, 0, 4, 4), 1);
            Check.due("(8, 0) by (3, 5)", blocked(8, 0, 3, 5), 0);
            Check.due("(8, 19) by (4, 15)", blocked(8, 19, 4, 15), 0);
            Check.due("(7, 19) by (3, 15)", blocked(7, 19, 3, 15), 1);
            Check.due("(7, 19) by (2, 14)", blocked(7, 19, 2, 14), 0);
        });
        Check.sentence("Field: blocked: between it and the tower", () -> {
            Check.due("by one behind it", blocked(8, 10, 9, 10), 0);
            Check.due("by one behind it on the line", blocked(7, 1, 8, 0), 0);
            Check.due("by one beside it", blocked(8, 10, 8, 9), 0);
            Check.due("row 0 by one beside it", blocked(0, 9, 0, 10), 0);
            Check.due("row 0 by one behind it", blocked(0, 10, 1, 10), 0);
        });
    }

    /** For every pair of places: on the line to the tower by the cross product, and 1 to 4 rows nearer. */
    private static void blockedEverywhere() {
        for (int row = 0; row < 20; row++) {
            for (int column = 0; column < 20; column++) {
                Recorded x = Recorded.with(new int[][] {{row, column, 0}});
                int wrong = 0;
                for (int place = Math.max(0, (row - 6) * 20); place < Math.min(400, row * 20 + 40); place++) {
                    int up = row - place / 20;
                    boolean onLine = (place % 20 - column) * (row + 2) == (10 - column) * up;
                    if (x.mirror(place / 20, place % 20, 0) == 1) {
                        wrong += x.of(0, 4) == (onLine && up >= 1 && up <= 4 ? 1 : 0) ? 0 : 1;
                        x.take(1);
                    }
                }
                Check.due("wrongly blocked at (" + row + ", " + column + ")", wrong, 0);
            }
        }
    }

    private static void gives() {
        Check.sentence("Field: gives: 20 / (20 + its row)", () -> {
            int[] noons = {60, 57, 54, 52, 50, 48, 46, 44, 42, 41, 40, 38, 37, 36, 35, 34, 33, 32, 31, 30};
            for (int row = 0; row < 20; row++) {
                Check.due("row " + row, Recorded.with(new int[][] {{row, 0, 0}}).at(0, 5, 1), noons[row]);
            }
        });
        Check.sentence("Field: gives: 100 less its dust", () -> {
            int[] noons = {60, 48, 36, 24, 12, 0, 0};
            Recorded x = Recorded.with(new int[][] {{0, 0, 0}});
            x.set(SunMirrors.DUST, 20);
            for (int day = 0; day < noons.length; day++) {
                Check.due("day " + day, x.at(0, 5, 1), noons[day]);
                x.pass(1);
            }
        });
        Check.sentence("Field: gives: in that order", () -> {
            Recorded x = Recorded.with(new int[][] {{3, 3, 0}});
            x.set(SunMirrors.DUST, 13);
            x.pass(1);
            Check.due("87 * 1 * 20 / 23 / 10", x.at(0, 0, 1), 7);
            Check.due("87 * 3 * 20 / 23 / 10", x.at(0, 2, 1), 22);
            Check.due("87 * 6 * 20 / 23 / 10", x.at(0, 5, 1), 45);
            x.pass(6);
            Check.due("9 * 1 * 20 / 23 / 10", x.at(0, 0, 1), 0);
            Check.due("9 * 2 * 20 / 23 / 10", x.at(0, 1, 1), 1);
            Check.due("9 * 6 * 20 / 23 / 10", x.at(0, 5, 1), 4);
        });
        Check.sentence("Field: gives: nothing if it is shaded", () -> {
            Recorded x = Recorded.with(new int[][] {{10, 3, 0}, {9, 3, 0}});
            Check.due("shaded", x.at(0, 5, 1), 0);
            Check.due("not shaded", x.at(0, 4, 1), 33);
            Check.due("not blocked", x.of(0, 4), 0);
        });
        Check.sentence("Field: gives: nothing if it is blocked", () -> {
            Recorded x = Recorded.with(new int[][] {{10, 10, 0}, {8, 10, 0}});
            for (int hour = 0; hour <= 10; hour++) {
                Check.due("not shaded", x.at(0, hour, 0), 0);
                Check.due("blocked, hour " + hour, x.at(0, hour, 1), 0);
            }
        });
        Check.sentence("Field: gives: nothing if all mirrors lie flat (the wind is above WIND)", () -> {
            Recorded x = Recorded.with(new int[][] {{0, 0, 0}, {19, 19, 3}});
            x.wind(50);
            Check.due("wind 50", x.at(0, 5, 1), 60);
            x.wind(51);
            Check.due("wind 51", x.at(0, 5, 1), 0);
            Check.due("wind 51", x.at(1, 5, 1), 0);
            x.set(SunMirrors.WIND, 51);
            Check.due("WIND 51", x.at(1, 5, 1), 30);
        });
    }

    private static void aimPoints() {
        Check.sentence("Field: aim points: the most first", () -> {
            Recorded x = Recorded.with(new int[][] {{10, 0, 1}, {5, 7, 1}, {0, 3, 1}});
            x.set(SunMirrors.LIMIT, 60);
            Check.due("60 of 40, 48, 60", x.point(1, 5, 2), 4);
            x.set(SunMirrors.LIMIT, 100);
            Check.due("60 and 40", x.point(1, 5, 2), 5);
            x.set(SunMirrors.LIMIT, 108);
            Check.due("60 and 48", x.point(1, 5, 2), 6);
        });
        Check.sentence("Field: aim points: of like ones the lower number first", () -> {
            Recorded x = Recorded.with(new int[][] {{10, 19, 3}, {0, 0, 3}, {0, 5, 3}, {0, 9, 3}});
            x.set(SunMirrors.LIMIT, 60);
            Check.due("one of three", x.point(3, 5, 2), 2);
            x.set(SunMirrors.LIMIT, 120);
            Check.due("two of three", x.point(3, 5, 2), 6);
            x.take(1);
            x.mirror(0, 0, 3);
            x.set(SunMirrors.LIMIT, 60);
            Check.due("by the number, not by the place", x.point(3, 5, 2), 2);
        });
        Check.sentence("Field: aim points: used at most up to LIMIT", () -> {
            Recorded x = Recorded.with(new int[][] {{0, 3, 2}, {5, 7, 2}});
            int[][] dues = {{47, 0}, {48, 2}, {59, 2}, {60, 1}, {107, 1}, {108, 3}, {9999, 3}};
            for (int[] due : dues) {
                x.set(SunMirrors.LIMIT, due[0]);
                Check.due("LIMIT " + due[0], x.point(2, 5, 2), due[1]);
            }
        });
        Check.sentence("Field: aim points: what the point has by those used before", () -> {
            Recorded x = Recorded.with(new int[][] {{0, 3, 0}, {5, 7, 0}, {19, 19, 0}});
            x.set(SunMirrors.LIMIT, 59);
            Check.due("60 looks away and counts for nothing", x.point(0, 5, 2), 2);
            x.set(SunMirrors.LIMIT, 78);
            Check.due("60 alone, though 48 and 30 are more", x.point(0, 5, 0), 60);
            x.set(SunMirrors.LIMIT, 90);
            Check.due("60 and 30", x.point(0, 5, 2), 5);
            x.aim(0, 1);
            Check.due("each point has its own", x.point(0, 5, 2), 6);
        });
        Check.sentence("Field: aim points: one that gives 0 is used, too", () -> {
            Recorded x = Recorded.with(new int[][] {{10, 3, 0}, {9, 3, 0}, {10, 10, 0}, {8, 10, 0}});
            x.set(SunMirrors.LIMIT, 83);
            Check.due("41 and 42 are 83", x.point(0, 5, 0), 83);
            Check.due("the shaded and the blocked one too", x.point(0, 5, 2), 15);
            x.set(SunMirrors.LIMIT, 1);
            Check.due("by LIMIT 1", x.point(0, 5, 2), 5);
            x.wind(99);
            Check.due("flat", x.point(0, 5, 2), 15);
            Check.due("flat", x.at(1, 5, 2), 1);
        });
        Check.sentence("Field: aim points: otherwise it looks away", () -> {
            Recorded x = Recorded.with(new int[][] {{0, 0, 0}, {0, 19, 0}});
            x.set(SunMirrors.LIMIT, 119);
            Check.due("at(0, 5, 2)", x.at(0, 5, 2), 1);
            Check.due("at(1, 5, 2)", x.at(1, 5, 2), 0);
            Check.due("it gives all the same", x.at(1, 5, 1), 60);
            Check.due("the point has nothing by it", x.point(0, 5, 0), 60);
            Check.due("in another hour it does not", x.at(1, 4, 2), 1);
        });
    }

    private static void days() {
        Check.sentence("Days: each hour 0 to 10 brings what all used mirrors give in it", TermsTest::eachHourBrings);
        Check.sentence("Days: one that looks away brings nothing", () -> {
            Recorded x = Recorded.with(new int[][] {{0, 0, 0}, {10, 19, 1}});
            x.set(SunMirrors.LIMIT, 50);
            Check.due("the first looks away at noon", x.pass(1), 360 - 60 + 236);
            Check.due("of(0, 5)", x.of(0, 5), 300);
            Check.due("of(1, 5)", x.of(1, 5), 236);
        });
        Check.sentence("Days: then each mirror has DUST more dust", () -> {
            Recorded x = Recorded.with(new int[][] {{0, 0, 0}, {0, 19, 0}, {10, 10, 1}, {8, 10, 1}});
            x.set(SunMirrors.LIMIT, 60);
            x.set(SunMirrors.DUST, 9);
            Check.due("the first day is without dust", x.pass(1),
                360 + 2 * (10 + 20 + 30) + 2 * (7 + 14 + 21 + 28 + 35) + 42);
            for (int mirror = 0; mirror < 4; mirror++) {
                Check.due("used, looking away, blocked: of(" + mirror + ", 3)", x.of(mirror, 3), 9);
            }
            x.wind(99);
            x.pass(1);
            Check.due("flat: of(0, 3)", x.of(0, 3), 18);
        });
    }

    /** A row of mirrors full of dust shades one behind it in all hours but one: the day brings what that hour does. */
    private static void eachHourBrings() {
        int[] gives = {6, 13, 20, 26, 33, 40, 33, 26, 20, 13, 6};
        for (int free = 0; free <= 10; free++) {
            Recorded x = new Recorded();
            for (int hour = 0; hour <= 10; hour++) {
                if (hour != free) {
                    x.mirror(9, 8 + 5 - hour, 0);
                }
            }
            x.set(SunMirrors.DUST, 20);
            x.pass(5);
            x.mirror(10, 8, 0);
            Check.due("hour " + free + ": count(5)", x.count(5), gives[free]);
            Check.due("hour " + free + ": pass(1)", x.pass(1), gives[free]);
            Check.due("hour " + free + ": of(10, 5)", x.of(10, 5), gives[free]);
        }
    }
}
