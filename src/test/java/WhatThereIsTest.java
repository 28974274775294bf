/** Promises 9 to 13: what there is. */
final class WhatThereIsTest {
    private static final int MIN = Check.MIN;
    private static final int MAX = Check.MAX;
    private static final int BAD_VALUE = SunMirrors.BAD_VALUE;
    private static final int NO_SUCH = SunMirrors.NO_SUCH;
    private static final int NONE = SunMirrors.NONE;

    public static void main(String[] args) {
        sentences();
        Check.end("WhatThereIsTest");
    }

    static void sentences() {
        promise9Arguments();
        promise9Of();
        promise10Arguments();
        promise10At();
        promise11Arguments();
        promise11Point();
        promise12Arguments();
        promise12Count();
        promise12Sums();
        promise13In();
    }

    private static void promise9Arguments() {
        Check.sentence("9: NO_SUCH if there is no such mirror", () -> {
            Recorded x = Recorded.with(new int[][] {{3, 7, 2}, {12, 0, 1}});
            for (int wrong : new int[] {-1, 2, 23, 24, 32, MIN, MAX}) {
                for (int what = 0; what <= 5; what++) {
                    Check.due("of(" + wrong + ", " + what + ")", x.of(wrong, what), NO_SUCH);
                }
            }
            Check.changesNothing("of(2, 5)", x, () -> x.of(2, 5), NO_SUCH);
            Check.due("without mirrors", new Recorded().of(0, 0), NO_SUCH);
            Check.due("of 24", Recorded.full().of(24, 0), NO_SUCH);
            Check.due("the last of 24", Recorded.full().of(23, 0), 19);
        });
        Check.sentence("9: BAD_VALUE if what is out of range (0 to 5)", () -> {
            Recorded x = Recorded.with(new int[][] {{3, 7, 2}});
            for (int wrong : new int[] {-1, 6, MIN, MAX}) {
                Check.changesNothing("of(0, " + wrong + ")", x, () -> x.of(0, wrong), BAD_VALUE);
            }
            Check.due("of(0, 0)", x.of(0, 0), 3);
            Check.due("of(0, 5)", x.of(0, 5), 0);
        });
        Check.sentence("9: NO_SUCH before BAD_VALUE", () -> {
            Recorded x = Recorded.with(new int[][] {{3, 7, 2}});
            Check.due("of(1, 6)", x.of(1, 6), NO_SUCH);
            Check.due("of(-1, -1)", x.of(-1, -1), NO_SUCH);
        });
    }

    private static void promise9Of() {
        Check.sentence("9: 0 its row, 1 its column, 2 its aim point", () -> {
            int[][] places = {{0, 19, 3}, {19, 0, 0}, {7, 8, 1}, {0, 0, 2}};
            Recorded x = Recorded.with(places);
            for (int mirror = 0; mirror < 4; mirror++) {
                for (int what = 0; what <= 2; what++) {
                    Check.due("of(" + mirror + ", " + what + ")", x.of(mirror, what), places[mirror][what]);
                }
            }
        });
        Check.sentence("9: 3 its dust", () -> {
            Recorded x = Recorded.with(new int[][] {{0, 0, 0}});
            Check.due("at first", x.of(0, 3), 0);
            x.pass(49);
            x.mirror(0, 1, 0);
            x.pass(1);
            Check.due("50 * 2", x.of(0, 3), 100);
            Check.due("1 * 2", x.of(1, 3), 2);
            x.pass(1);
            Check.due("100 at most", x.of(0, 3), 100);
        });
        Check.sentence("9: 4 whether it is blocked (1 or 0)", () -> {
            Recorded x = Recorded.with(new int[][] {{10, 10, 0}, {6, 10, 1}, {5, 10, 1}});
            Check.due("of(0, 4)", x.of(0, 4), 1);
            Check.due("of(1, 4)", x.of(1, 4), 1);
            Check.due("of(2, 4)", x.of(2, 4), 0);
            x.wind(99);
            Check.due("flat: of(0, 4)", x.of(0, 4), 1);
            x.wind(0);
            x.take(1);
            Check.due("5 rows nearer: of(0, 4)", x.of(0, 4), 0);
        });
        Check.sentence("9: 5 what it brought so far", () -> {
            Recorded x = Recorded.with(new int[][] {{0, 0, 0}});
            Check.due("before the first day", x.of(0, 5), 0);
            x.pass(1);
            x.mirror(0, 3, 1);
            Check.due("one that came later", x.of(1, 5), 0);
            x.pass(1);
            Check.due("of(0, 5)", x.of(0, 5), 360 + 348);
            Check.due("of(1, 5)", x.of(1, 5), 360);
            x.wind(99);
            x.pass(5);
            x.wash(0);
            x.aim(0, 3);
            Check.due("flat, washed, aimed elsewhere", x.of(0, 5), 708);
            x.take(0);
            Check.due("moved up", x.of(0, 5), 360);
            x.undo();
            Check.due("and back", x.of(0, 5), 708);
        });
        Check.sentence("9: 5 what it brought so far: in 999 days", () -> {
            Recorded x = Recorded.with(new int[][] {{0, 0, 0}});
            x.set(SunMirrors.DUST, 0);
            for (int days = 0; days < 999; days += 37) {
                Check.due("pass(37)", x.pass(37), 37 * 360);
            }
            Check.due("of(0, 5)", x.of(0, 5), 999 * 360);
        });
    }

    private static void promise10Arguments() {
        Check.sentence("10: NO_SUCH if there is no such mirror", () -> {
            Recorded x = Recorded.with(new int[][] {{0, 0, 0}});
            for (int wrong : new int[] {-1, 1, 23, 24, 32, MIN, MAX}) {
                for (int what = 0; what <= 3; what++) {
                    Check.due("at(" + wrong + ", 5, " + what + ")", x.at(wrong, 5, what), NO_SUCH);
                }
            }
            Check.changesNothing("at(1, 5, 3)", x, () -> x.at(1, 5, 3), NO_SUCH);
            Check.due("without mirrors", new Recorded().at(0, 0, 0), NO_SUCH);
            Check.due("of 24", Recorded.full().at(24, 5, 1), NO_SUCH);
            Check.due("the last of 24", Recorded.full().at(23, 5, 1), 30);
        });
        Check.sentence("10: NO_SUCH if there is no such hour", () -> {
            Recorded x = Recorded.with(new int[][] {{0, 0, 0}});
            for (int wrong : new int[] {-1, 11, 12, MIN, MAX}) {
                for (int what = 0; what <= 3; what++) {
                    Check.due("at(0, " + wrong + ", " + what + ")", x.at(0, wrong, what), NO_SUCH);
                }
            }
            Check.changesNothing("at(0, 11, 3)", x, () -> x.at(0, 11, 3), NO_SUCH);
            Check.due("at(0, 0, 1)", x.at(0, 0, 1), 10);
            Check.due("at(0, 10, 1)", x.at(0, 10, 1), 10);
        });
        Check.sentence("10: BAD_VALUE if what is out of range (0 to 3)", () -> {
            Recorded x = Recorded.with(new int[][] {{0, 0, 0}});
            for (int wrong : new int[] {-1, 4, MIN, MAX}) {
                Check.changesNothing("at(0, 0, " + wrong + ")", x, () -> x.at(0, 0, wrong), BAD_VALUE);
            }
            Check.due("at(0, 0, 0)", x.at(0, 0, 0), 0);
            Check.due("at(0, 0, 3)", x.at(0, 0, 3), NONE);
        });
        Check.sentence("10: NO_SUCH before BAD_VALUE", () -> {
            Recorded x = Recorded.with(new int[][] {{0, 0, 0}});
            Check.due("at(1, 0, 4)", x.at(1, 0, 4), NO_SUCH);
            Check.due("at(0, 11, 4)", x.at(0, 11, 4), NO_SUCH);
            Check.due("at(-1, -1, -1)", x.at(-1, -1, -1), NO_SUCH);
        });
    }

    private static void promise10At() {
        Check.sentence("10: 0 whether it is shaded (1 or 0)", () -> {
            Recorded x = Recorded.with(new int[][] {{10, 5, 0}, {9, 5, 0}});
            for (int hour = 0; hour <= 10; hour++) {
                Check.due("at(0, " + hour + ", 0)", x.at(0, hour, 0), hour == 5 ? 1 : 0);
                Check.due("at(1, " + hour + ", 0)", x.at(1, hour, 0), 0);
            }
            x.wind(99);
            Check.due("flat: at(0, 5, 0)", x.at(0, 5, 0), 1);
            x.take(1);
            Check.due("alone: at(0, 5, 0)", x.at(0, 5, 0), 0);
        });
        Check.sentence("10: 1 what it gives", () -> {
            int[] rows = {0, 5, 10, 19};
            int[][] gives = {{10, 20, 30, 40, 50, 60, 50, 40, 30, 20, 10}, {8, 16, 24, 32, 40, 48, 40, 32, 24, 16, 8},
                {6, 13, 20, 26, 33, 40, 33, 26, 20, 13, 6}, {5, 10, 15, 20, 25, 30, 25, 20, 15, 10, 5}};
            for (int index = 0; index < rows.length; index++) {
                Recorded x = Recorded.with(new int[][] {{rows[index], 3, 0}});
                for (int hour = 0; hour <= 10; hour++) {
                    Check.due("row " + rows[index] + ", hour " + hour, x.at(0, hour, 1), gives[index][hour]);
                }
            }
        });
        Check.sentence("10: 2 whether it is used (1 or 0)", () -> {
            Recorded x = Recorded.with(new int[][] {{0, 0, 0}, {10, 19, 1}});
            x.set(SunMirrors.LIMIT, 50);
            for (int hour = 0; hour <= 10; hour++) {
                Check.due("at(0, " + hour + ", 2)", x.at(0, hour, 2), hour == 5 ? 0 : 1);
                Check.due("at(1, " + hour + ", 2)", x.at(1, hour, 2), 1);
            }
            x.wind(99);
            Check.due("flat: at(0, 5, 2)", x.at(0, 5, 2), 1);
        });
        Check.sentence("10: 3 the mirror that shades it (NONE)", () -> {
            Recorded x = Recorded.with(new int[][] {{9, 5, 0}, {10, 5, 0}});
            for (int hour = 0; hour <= 10; hour++) {
                Check.due("at(1, " + hour + ", 3)", x.at(1, hour, 3), hour == 5 ? 0 : NONE);
                Check.due("at(0, " + hour + ", 3)", x.at(0, hour, 3), NONE);
            }
            x.wind(99);
            Check.due("flat: at(1, 5, 3)", x.at(1, 5, 3), 0);
            Check.changesNothing("at(0, 5, 3)", x, () -> x.at(0, 5, 3), NONE);
        });
        Check.sentence("10: 3 of several the nearest one", () -> {
            Recorded x = Recorded.with(new int[][] {{12, 0, 0}, {9, 15, 0}, {10, 10, 0}});
            Check.due("2 and 3 times away: at(0, 0, 3)", x.at(0, 0, 3), 2);
            x.mirror(11, 5, 0);
            Check.due("1, 2 and 3 times away: at(0, 0, 3)", x.at(0, 0, 3), 3);
            x.take(2);
            Check.due("1 and 3 times away: at(0, 0, 3)", x.at(0, 0, 3), 2);
            x.take(2);
            Check.due("3 times away: at(0, 0, 3)", x.at(0, 0, 3), 1);
            x.take(1);
            Check.due("alone: at(0, 0, 3)", x.at(0, 0, 3), NONE);
            Check.due("the lower number is farther", Recorded.with(new int[][] {{4, 19, 0}, {5, 15, 0}, {6, 11, 0}})
                .at(2, 1, 3), 1);
        });
    }

    private static void promise11Arguments() {
        Check.sentence("11: NO_SUCH if there is no such aim point", () -> {
            Recorded x = Recorded.with(new int[][] {{0, 0, 0}, {0, 5, 3}});
            for (int wrong : new int[] {-1, 4, MIN, MAX}) {
                for (int what = 0; what <= 2; what++) {
                    Check.due("point(" + wrong + ", 5, " + what + ")", x.point(wrong, 5, what), NO_SUCH);
                }
                Check.changesNothing("point(" + wrong + ", 5, 0)", x, () -> x.point(wrong, 5, 0), NO_SUCH);
            }
            Check.due("point(0, 5, 1)", x.point(0, 5, 1), 1);
            Check.due("point(3, 5, 1)", x.point(3, 5, 1), 2);
        });
        Check.sentence("11: NO_SUCH if there is no such hour", () -> {
            Recorded x = Recorded.with(new int[][] {{0, 0, 0}});
            for (int wrong : new int[] {-1, 11, MIN, MAX}) {
                for (int what = 0; what <= 2; what++) {
                    Check.due("point(0, " + wrong + ", " + what + ")", x.point(0, wrong, what), NO_SUCH);
                }
                Check.changesNothing("point(0, " + wrong + ", 1)", x, () -> x.point(0, wrong, 1), NO_SUCH);
            }
            Check.due("point(0, 0, 0)", x.point(0, 0, 0), 10);
            Check.due("point(0, 10, 0)", x.point(0, 10, 0), 10);
        });
        Check.sentence("11: BAD_VALUE if what is out of range (0 to 2)", () -> {
            Recorded x = Recorded.with(new int[][] {{0, 0, 3}});
            for (int wrong : new int[] {-1, 3, MIN, MAX}) {
                Check.changesNothing("point(3, 10, " + wrong + ")", x, () -> x.point(3, 10, wrong), BAD_VALUE);
            }
            Check.due("point(3, 10, 0)", x.point(3, 10, 0), 10);
            Check.due("point(3, 10, 2)", x.point(3, 10, 2), 1);
        });
        Check.sentence("11: NO_SUCH before BAD_VALUE", () -> {
            Recorded x = new Recorded();
            Check.due("point(4, 0, 3)", x.point(4, 0, 3), NO_SUCH);
            Check.due("point(0, 11, 3)", x.point(0, 11, 3), NO_SUCH);
            Check.due("point(-1, -1, -1)", x.point(-1, -1, -1), NO_SUCH);
        });
    }

    private static void promise11Point() {
        Check.sentence("11: 0 what it has by its used mirrors", () -> {
            Recorded x = Recorded.with(new int[][] {{10, 0, 1}, {0, 3, 1}, {5, 7, 1}, {0, 12, 1}, {0, 17, 2}});
            int[][] dues = {{39, 0}, {40, 40}, {47, 40}, {48, 48}, {59, 48}, {60, 60}, {99, 60}, {100, 100},
                {107, 100}, {108, 108}, {119, 108}, {120, 120}, {159, 120}, {160, 160}, {167, 160}, {168, 168},
                {207, 168}, {208, 208}, {9999, 208}};
            for (int[] due : dues) {
                x.set(SunMirrors.LIMIT, due[0]);
                Check.due("LIMIT " + due[0] + ": point(1, 5, 0)", x.point(1, 5, 0), due[1]);
                Check.due("LIMIT " + due[0] + ": point(2, 5, 0)", x.point(2, 5, 0), due[0] < 60 ? 0 : 60);
                Check.due("LIMIT " + due[0] + ": point(3, 5, 0)", x.point(3, 5, 0), 0);
            }
        });
        Check.sentence("11: 1 its mirrors, as a set", () -> {
            Recorded x = Recorded.with(new int[][] {{0, 0, 3}, {0, 5, 1}, {0, 10, 3}, {0, 15, 0}});
            int[] sets = {8, 2, 0, 5};
            for (int aim = 0; aim <= 3; aim++) {
                for (int hour = 0; hour <= 10; hour++) {
                    Check.due("point(" + aim + ", " + hour + ", 1)", x.point(aim, hour, 1), sets[aim]);
                }
            }
            x.set(SunMirrors.LIMIT, 1);
            Check.due("also those that look away", x.point(3, 5, 1), 5);
            x.wind(99);
            Check.due("also those that lie flat", x.point(3, 5, 1), 5);
            x.take(0);
            Check.due("by the new numbers", x.point(3, 5, 1), 2);
        });
        Check.sentence("11: 2 those that are used, as a set", () -> {
            Recorded x = Recorded.with(new int[][] {{10, 0, 1}, {0, 3, 1}, {5, 7, 1}, {0, 12, 1}, {0, 17, 2}});
            int[][] dues = {{39, 0}, {40, 1}, {47, 1}, {48, 4}, {59, 4}, {60, 2}, {99, 2}, {100, 3}, {107, 3},
                {108, 6}, {119, 6}, {120, 10}, {159, 10}, {160, 11}, {167, 11}, {168, 14}, {207, 14}, {208, 15},
                {9999, 15}};
            for (int[] due : dues) {
                x.set(SunMirrors.LIMIT, due[0]);
                Check.due("LIMIT " + due[0] + ": point(1, 5, 2)", x.point(1, 5, 2), due[1]);
                Check.due("LIMIT " + due[0] + ": point(2, 5, 2)", x.point(2, 5, 2), due[0] < 60 ? 0 : 16);
                for (int mirror = 0; mirror < 4; mirror++) {
                    Check.due("LIMIT " + due[0] + ": as at(" + mirror + ", 5, 2)", x.at(mirror, 5, 2),
                        due[1] >> mirror & 1);
                }
            }
        });
        Check.sentence("11: of a point without mirrors: 0 and empty sets", () -> {
            Recorded x = Recorded.with(new int[][] {{0, 0, 2}});
            for (int what = 0; what <= 2; what++) {
                Check.due("point(0, 5, " + what + ")", x.point(0, 5, what), 0);
                Check.due("point(3, 5, " + what + ")", x.point(3, 5, what), 0);
            }
        });
        Check.sentence("11: 24 mirrors at a point", () -> {
            Recorded x = new Recorded();
            for (int number = 0; number < 24; number++) {
                x.mirror(number / 20 * 19, number % 20, 3);
            }
            Check.due("point(3, 5, 1)", x.point(3, 5, 1), 0xFFFFFF);
            Check.due("6 * 60 and 1 * 30: point(3, 5, 2)", x.point(3, 5, 2), 0x10003F);
            x.set(SunMirrors.LIMIT, 9999);
            Check.due("point(3, 5, 0)", x.point(3, 5, 0), 20 * 60 + 4 * 30);
            Check.due("point(3, 5, 2)", x.point(3, 5, 2), 0xFFFFFF);
        });
    }

    private static void promise12Arguments() {
        Check.sentence("12: BAD_VALUE if what is out of range (0 to 12)", () -> {
            Recorded x = Recorded.with(new int[][] {{0, 0, 0}});
            for (int wrong : new int[] {-1, 13, 14, MIN, MAX}) {
                Check.changesNothing("count(" + wrong + ")", x, () -> x.count(wrong), BAD_VALUE);
            }
            Check.due("count(0)", x.count(0), 0);
            Check.due("count(12)", x.count(12), 1);
        });
    }

    private static void promise12Count() {
        Check.sentence("12: 0 days so far", () -> {
            Recorded x = new Recorded();
            Check.due("at first", x.count(0), 0);
            for (int times = 1; times <= 10; times++) {
                x.pass(99);
                Check.due("99 each", x.count(0), 99 * times);
            }
            x.pass(9);
            Check.due("the most", x.count(0), 999);
        });
        Check.sentence("12: 1 mirrors", () -> {
            Recorded x = Recorded.full();
            Check.due("the most", x.count(1), 24);
            x.take(3);
            Check.due("after take()", x.count(1), 23);
            Check.due("at first", new Recorded().count(1), 0);
        });
        Check.sentence("12: 2 the wind", () -> {
            Recorded x = new Recorded();
            Check.due("at first", x.count(2), 0);
            x.wind(99);
            Check.due("the most", x.count(2), 99);
            x.wind(1);
            Check.due("less again", x.count(2), 1);
        });
        Check.sentence("12: 3 whether mirrors lie flat (1 or 0)", () -> {
            Recorded x = Recorded.with(new int[][] {{0, 0, 0}});
            x.wind(50);
            Check.due("wind 50", x.count(3), 0);
            x.wind(51);
            Check.due("wind 51", x.count(3), 1);
            x.set(SunMirrors.WIND, 51);
            Check.due("WIND 51", x.count(3), 0);
            Check.due("at first", new Recorded().count(3), 0);
        });
        Check.sentence("12: 8 to 10 the settings", () -> {
            Recorded x = new Recorded();
            int[] leasts = {1, 1, 0};
            int[] mosts = {9999, 99, 20};
            for (int setting = 0; setting <= 2; setting++) {
                x.set(setting, leasts[setting]);
                Check.due("the least of " + setting, x.count(8 + setting), leasts[setting]);
                x.set(setting, mosts[setting]);
                Check.due("the most of " + setting, x.count(8 + setting), mosts[setting]);
            }
            Check.due("LIMIT still", x.count(8), 9999);
        });
        Check.sentence("12: 11 the length of the pad", () -> {
            Recorded x = new Recorded();
            Check.due("at first", x.count(11), 0);
            for (int times = 1; times <= 10; times++) {
                Check.put(x, "12345678");
                Check.due("8 each", x.count(11), 8 * times);
            }
            x.put('9');
            Check.due("the most", x.count(11), 80);
            x.wipe();
            Check.due("after wipe()", x.count(11), 0);
        });
        Check.sentence("12: 12 how many changes can be undone", () -> {
            Recorded x = new Recorded();
            int[] dues = {0, 1, 2, 3, 4, 5, 6, 6, 6};
            for (int due : dues) {
                Check.due("count(12)", x.count(12), due);
                x.wind(9);
            }
            x.undo();
            Check.due("after undo()", x.count(12), 5);
        });
    }

    private static void promise12Sums() {
        Check.sentence("12: 4 what all days brought so far", () -> {
            Recorded x = Recorded.with(new int[][] {{0, 0, 0}});
            Check.due("at first", x.count(4), 0);
            x.pass(1);
            Check.due("a day", x.count(4), 360);
            x.take(0);
            Check.due("also what is gone brought", x.count(4), 360);
            x.pass(5);
            Check.due("days that bring nothing", x.count(4), 360);
            x.mirror(10, 0, 3);
            x.pass(1);
            Check.due("one day more", x.count(4), 360 + 236);
            x.undo();
            Check.due("undone", x.count(4), 360);
        });
        Check.sentence("12: 4 what all days brought so far: the most", () -> {
            Recorded x = Recorded.full();
            x.set(SunMirrors.DUST, 0);
            for (int days = 0; days < 999; days += 37) {
                x.pass(37);
            }
            Check.due("999 days", x.count(4), 999 * (20 * 360 + 4 * 180));
        });
        Check.sentence("12: 5 what a day would bring now", () -> {
            Recorded x = new Recorded();
            Check.due("without mirrors", x.count(5), 0);
            x.mirror(0, 0, 0);
            Check.due("one", x.count(5), 360);
            x.mirror(10, 19, 0);
            Check.due("two", x.count(5), 596);
            x.set(SunMirrors.LIMIT, 60);
            Check.due("with one looking away", x.count(5), 360 + 2 * (6 + 13 + 20));
            x.pass(1);
            int now = x.count(5);
            Check.due("with dust it brings so much", x.pass(1), now);
            x.wind(51);
            Check.due("flat", x.count(5), 0);
            Check.changesNothing("count(5)", x, () -> x.count(5), 0);
        });
        Check.sentence("12: 5 what a day would bring now: also after 999 days", () -> {
            Recorded x = new Recorded();
            for (int times = 0; times < 11; times++) {
                x.pass(times == 0 ? 9 : 99);
            }
            x.mirror(0, 0, 0);
            Check.due("pass(1)", x.pass(1), SunMirrors.NOT_POSSIBLE);
            Check.due("count(5)", x.count(5), 360);
        });
        Check.sentence("12: 6 blocked mirrors, as a set", () -> {
            Recorded x = Recorded.with(new int[][] {{10, 10, 0}, {8, 10, 0}, {0, 0, 0}, {5, 17, 0}, {6, 18, 0}});
            Check.due("0 and 4", x.count(6), 1 | 16);
            x.wind(99);
            Check.due("also if flat", x.count(6), 1 | 16);
            x.take(1);
            Check.due("only 3 by its new number", x.count(6), 8);
            Check.due("none", new Recorded().count(6), 0);
        });
        Check.sentence("12: 7 the sum of all dust", () -> {
            Recorded x = Recorded.full();
            Check.due("at first", x.count(7), 0);
            x.pass(1);
            Check.due("24 * 2", x.count(7), 48);
            x.wash(5);
            Check.due("23 * 2", x.count(7), 46);
            x.pass(99);
            Check.due("the most", x.count(7), 2400);
            x.take(0);
            Check.due("without one", x.count(7), 2300);
        });
    }

    private static void promise13In() {
        Check.sentence("13: returns the mirror in a place", () -> {
            Recorded x = Recorded.with(new int[][] {{0, 19, 0}, {19, 0, 0}, {7, 8, 0}, {0, 0, 1}, {19, 19, 2}});
            Check.due("in(0, 19)", x.in(0, 19), 0);
            Check.due("in(19, 0)", x.in(19, 0), 1);
            Check.due("in(7, 8)", x.in(7, 8), 2);
            Check.due("in(0, 0)", x.in(0, 0), 3);
            Check.due("in(19, 19)", x.in(19, 19), 4);
            x.take(0);
            Check.due("moved up: in(7, 8)", x.in(7, 8), 1);
            x.undo();
            Check.due("and back: in(7, 8)", x.in(7, 8), 2);
        });
        Check.sentence("13: returns NONE", () -> {
            Recorded x = Recorded.with(new int[][] {{0, 19, 0}, {7, 8, 0}});
            Check.changesNothing("in(0, 0)", x, () -> x.in(0, 0), NONE);
            Check.due("row and column the other way round", x.in(8, 7), NONE);
            Check.due("in(1, 0) is not behind in(0, 19)", x.in(1, 0), NONE);
            Check.due("in(19, 19)", x.in(19, 19), NONE);
            x.take(0);
            Check.due("taken away: in(0, 19)", x.in(0, 19), NONE);
            x.take(0);
            Check.due("none is left: in(7, 8)", x.in(7, 8), NONE);
        });
        Check.sentence("13: NO_SUCH if there is no such place", () -> {
            Recorded x = Recorded.with(new int[][] {{0, 19, 0}, {1, 0, 0}});
            for (int wrong : new int[] {-1, 20, MIN, MAX}) {
                Check.changesNothing("in(" + wrong + ", 0)", x, () -> x.in(wrong, 0), NO_SUCH);
                Check.changesNothing("in(0, " + wrong + ")", x, () -> x.in(0, wrong), NO_SUCH);
                Check.due("in(1, " + wrong + ")", x.in(1, wrong), NO_SUCH);
            }
        });
    }
}
