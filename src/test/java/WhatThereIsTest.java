/** Promises 9 to 13: what there is. */
final class WhatThereIsTest {
    private static final int MIN = Integer.MIN_VALUE;
    private static final int MAX = Integer.MAX_VALUE;
    /** How many times what the sun stands towards a shade is long, by hours: 6 / (1 to 6 to 1). */
    private static final int[] REACHES = {6, 3, 2, 1, 1, 1, 1, 1, 2, 3, 6};

    public static void main(String[] args) {
        promise9Of();
        promise9Blocked();
        promise9BlockedEverywhere();
        promise10Shades();
        promise10NearestShade();
        promise10Gives();
        promise10Errors();
        promise11OrderAndLimit();
        promise11TiesAndZeros();
        promise11Errors();
        promise12Count();
        promise13In();
        Check.end("WhatThereIsTest");
    }

    private static void promise9Of() {
        SunMirrors x = new SunMirrors();
        x.mirror(3, 7, 2);
        x.mirror(12, 0, 1);
        x.pass(5);
        int[][] facts = {{3, 7, 2, 10, 0}, {12, 0, 1, 10, 0}};
        for (int mirror = 0; mirror < 2; mirror++) {
            for (int what = 0; what < 5; what++) {
                Check.due("of(" + mirror + ", " + what + ")", x.of(mirror, what), facts[mirror][what]);
            }
        }
        Check.due("both brought all", x.of(0, 5) + x.of(1, 5), x.count(4));
        int[] none = {-1, 2, 24, MIN, MAX};
        for (int wrong : none) {
            Check.changesNothing("of(" + wrong + ", 0)", x, () -> x.of(wrong, 0), SunMirrors.NO_SUCH);
            Check.changesNothing("of(" + wrong + ", 6)", x, () -> x.of(wrong, 6), SunMirrors.NO_SUCH);
        }
        int[] wrongs = {-1, 6, MIN, MAX};
        for (int wrong : wrongs) {
            Check.changesNothing("of(1, " + wrong + ")", x, () -> x.of(1, wrong), SunMirrors.BAD_VALUE);
        }
    }

    private static void promise9Blocked() {
        int[][] blockers = {{4, 7}, {2, 8}};
        for (int[] place : blockers) {
            Check.due("(6, 6) by (" + place[0] + ", " + place[1] + ")", blocked(6, 6, place[0], place[1]), 1);
            Check.due("the nearer one is free", blocked(place[0], place[1], 6, 6), 0);
        }
        int[][] beside = {{5, 7}, {5, 6}, {3, 7}, {4, 6}, {4, 8}, {6, 7}, {8, 5}};
        for (int[] place : beside) {
            Check.due("(6, 6) by (" + place[0] + ", " + place[1] + ")", blocked(6, 6, place[0], place[1]), 0);
        }
        Check.due("(18, 0), 2 nearer", blocked(18, 0, 16, 1), 1);
        Check.due("(18, 0), 4 nearer", blocked(18, 0, 14, 2), 1);
        Check.due("(18, 0), 6 nearer", blocked(18, 0, 12, 3), 0);
        Check.due("(18, 19), 2 nearer", blocked(6, 18, 4, 16), 1);
        for (int nearer = 1; nearer <= 10; nearer++) {
            Check.due("(10, 10), " + nearer + " nearer", blocked(10, 10, 10 - nearer, 10), nearer <= 4 ? 1 : 0);
        }
        SunMirrors x = new SunMirrors();
        x.mirror(5, 10, 0);
        x.mirror(3, 10, 1);
        Check.due("blocked gives nothing", x.at(0, 5, 1), 0);
        Check.due("blocked is not shaded", x.at(0, 5, 0), 0);
        Check.due("count(6)", x.count(6), 1);
        x.wind(99);
        Check.due("blocked though flat", x.of(0, 4), 1);
        x.take(1);
        Check.due("free again", x.of(0, 4), 0);
        Check.due("count(6)", x.count(6), 0);
    }

    /** For every pair of places: on the line to the tower by the cross product, and 1 to 4 rows nearer. */
    private static void promise9BlockedEverywhere() {
        for (int row = 0; row < 20; row++) {
            for (int column = 0; column < 20; column++) {
                int[] dues = new int[400];
                SunMirrors x = new SunMirrors();
                x.mirror(row, column, 0);
                int wrong = 0;
                for (int place = 0; place < 400 && place / 20 < row; place++) {
                    int up = row - place / 20;
                    boolean onLine = (place % 20 - column) * (row + 2) == (10 - column) * up;
                    dues[place] = onLine && up <= 4 ? 1 : 0;
                }
                for (int place = Math.max(0, (row - 6) * 20); place < Math.min(400, row * 20 + 40); place++) {
                    if (x.mirror(place / 20, place % 20, 0) == 1) {
                        wrong += x.of(0, 4) == dues[place] ? 0 : 1;
                        x.take(1);
                    }
                }
                Check.due("wrongly blocked at (" + row + ", " + column + ")", wrong, 0);
            }
        }
    }

    private static int blocked(int row, int column, int otherRow, int otherColumn) {
        SunMirrors x = new SunMirrors();
        x.mirror(otherRow, otherColumn, 0);
        x.mirror(row, column, 0);
        return x.of(1, 4);
    }

    /** A mirror is shaded just in the hour, and as far, as the sun's height and side tell. */
    private static void promise10Shades() {
        for (int hour = 0; hour <= 10; hour++) {
            for (int k = 1; k <= 7; k++) {
                int column = hour < 5 ? 0 : hour > 5 ? 19 : 9;
                int shade = column + k * (5 - hour);
                if (shade >= 0 && shade < 20) {
                    SunMirrors x = new SunMirrors();
                    x.mirror(12, column, 0);
                    x.mirror(12 - k, shade, 0);
                    boolean is = k <= REACHES[hour];
                    Check.due("hour " + hour + ", " + k + " times: 0", x.at(0, hour, 0), is ? 1 : 0);
                    Check.due("hour " + hour + ", " + k + " times: 3", x.at(0, hour, 3), is ? 1 : SunMirrors.NONE);
                    Check.holds("hour " + hour + ", " + k + " times: 1", (x.at(0, hour, 1) == 0) == is);
                    Check.due("the one that shades is not shaded", x.at(1, hour, 0), 0);
                    Check.due("the other side", x.at(0, 10 - hour, 0), hour == 5 && is ? 1 : 0);
                    x.wind(99);
                    Check.due("shaded though flat", x.at(0, hour, 0), is ? 1 : 0);
                }
            }
        }
        SunMirrors z = new SunMirrors();
        z.mirror(1, 5, 0);
        Check.due("nobody stands in (0, 0)", z.at(0, 10, 0), 0);
        z.mirror(0, 0, 0);
        Check.due("somebody stands in (0, 0)", z.at(0, 10, 3), 1);
        z.take(1);
        Check.due("nobody stands in (0, 0) any more", z.at(0, 10, 0), 0);
        SunMirrors y = new SunMirrors();
        y.mirror(0, 18, 0);
        y.mirror(2, 0, 0);
        y.mirror(5, 5, 0);
        y.mirror(6, 4, 0);
        for (int hour = 0; hour <= 10; hour++) {
            Check.due("no shade from beyond the plain's side", y.at(1, hour, 0), 0);
            Check.due("no shade from behind", y.at(2, hour, 0), 0);
            Check.due("shade", y.at(3, hour, 0), hour == 4 ? 1 : 0);
        }
    }

    private static void promise10NearestShade() {
        SunMirrors x = new SunMirrors();
        x.mirror(12, 0, 0);
        x.mirror(9, 15, 0);
        x.mirror(10, 10, 0);
        Check.due("at(0, 0, 3)", x.at(0, 0, 3), 2);
        x.mirror(11, 5, 0);
        Check.due("at(0, 0, 3)", x.at(0, 0, 3), 3);
        x.take(2);
        Check.due("at(0, 0, 3)", x.at(0, 0, 3), 2);
        x.take(2);
        Check.due("at(0, 0, 3)", x.at(0, 0, 3), 1);
        x.take(1);
        Check.due("at(0, 0, 3)", x.at(0, 0, 3), SunMirrors.NONE);
    }

    private static void promise10Gives() {
        int[] rows = {0, 5, 10, 19};
        int[][] gives = {{10, 20, 30, 40, 50, 60, 50, 40, 30, 20, 10}, {8, 16, 24, 32, 40, 48, 40, 32, 24, 16, 8},
            {6, 13, 20, 26, 33, 40, 33, 26, 20, 13, 6}, {5, 10, 15, 20, 25, 30, 25, 20, 15, 10, 5}};
        for (int index = 0; index < rows.length; index++) {
            SunMirrors x = new SunMirrors();
            x.mirror(rows[index], 3, 0);
            for (int hour = 0; hour <= 10; hour++) {
                Check.due("row " + rows[index] + ", hour " + hour, x.at(0, hour, 1), gives[index][hour]);
            }
        }
        SunMirrors y = new SunMirrors();
        y.mirror(3, 3, 0);
        y.set(SunMirrors.DUST, 13);
        y.pass(1);
        Check.due("87 * 6 * 20 / 23 / 10", y.at(0, 5, 1), 45);
        Check.due("87 * 3 * 20 / 23 / 10", y.at(0, 2, 1), 22);
        y.pass(6);
        Check.due("9 * 6 * 20 / 23 / 10", y.at(0, 5, 1), 4);
        Check.due("9 * 1 * 20 / 23 / 10", y.at(0, 0, 1), 0);
        y.pass(1);
        Check.due("dust 100", y.at(0, 5, 1), 0);
        Check.due("one that gives 0 is used", y.at(0, 5, 2), 1);
        y.wash(0);
        y.wind(51);
        Check.due("flat", y.at(0, 5, 1), 0);
        Check.due("flat: used", y.at(0, 5, 2), 1);
    }

    private static void promise10Errors() {
        SunMirrors x = new SunMirrors();
        x.mirror(0, 0, 0);
        int[] none = {-1, 1, 24, MIN, MAX};
        for (int wrong : none) {
            Check.changesNothing("at(" + wrong + ", 5, 0)", x, () -> x.at(wrong, 5, 0), SunMirrors.NO_SUCH);
            Check.changesNothing("at(" + wrong + ", 5, 4)", x, () -> x.at(wrong, 5, 4), SunMirrors.NO_SUCH);
        }
        int[] noHours = {-1, 11, MIN, MAX};
        for (int wrong : noHours) {
            Check.changesNothing("at(0, " + wrong + ", 0)", x, () -> x.at(0, wrong, 0), SunMirrors.NO_SUCH);
            Check.changesNothing("at(0, " + wrong + ", -1)", x, () -> x.at(0, wrong, -1), SunMirrors.NO_SUCH);
        }
        int[] wrongs = {-1, 4, MIN, MAX};
        for (int wrong : wrongs) {
            Check.changesNothing("at(0, 0, " + wrong + ")", x, () -> x.at(0, 0, wrong), SunMirrors.BAD_VALUE);
        }
        Check.due("at(0, 0, 3)", x.at(0, 0, 3), SunMirrors.NONE);
        Check.due("at(0, 10, 0)", x.at(0, 10, 0), 0);
    }

    /** At noon the mirrors give 40, 60, 48 and 60; the most is looked at first. */
    private static void promise11OrderAndLimit() {
        SunMirrors x = new SunMirrors();
        x.mirror(10, 0, 1);
        x.mirror(0, 3, 1);
        x.mirror(5, 7, 1);
        x.mirror(0, 12, 1);
        x.mirror(0, 17, 2);
        int[][] dues = {{39, 0, 0}, {40, 40, 1}, {47, 40, 1}, {48, 48, 4}, {59, 48, 4}, {60, 60, 2}, {99, 60, 2},
            {100, 100, 3}, {107, 100, 3}, {108, 108, 6}, {119, 108, 6}, {120, 120, 10}, {159, 120, 10},
            {160, 160, 11}, {167, 160, 11}, {168, 168, 14}, {207, 168, 14}, {208, 208, 15}, {9999, 208, 15}};
        for (int[] due : dues) {
            x.set(SunMirrors.LIMIT, due[0]);
            Check.due("LIMIT " + due[0] + ": point(1, 5, 0)", x.point(1, 5, 0), due[1]);
            Check.due("LIMIT " + due[0] + ": point(1, 5, 1)", x.point(1, 5, 1), 15);
            Check.due("LIMIT " + due[0] + ": point(1, 5, 2)", x.point(1, 5, 2), due[2]);
            for (int mirror = 0; mirror < 4; mirror++) {
                Check.due("LIMIT " + due[0] + ": at(" + mirror + ", 5, 2)", x.at(mirror, 5, 2), due[2] >> mirror & 1);
            }
            Check.due("LIMIT " + due[0] + ": point(2, 5, 2)", x.point(2, 5, 2), due[0] < 60 ? 0 : 16);
            Check.due("LIMIT " + due[0] + ": point(0, 5, 1)", x.point(0, 5, 1), 0);
        }
    }

    private static void promise11TiesAndZeros() {
        SunMirrors x = new SunMirrors();
        x.mirror(3, 10, 3);
        x.mirror(0, 0, 3);
        x.mirror(0, 5, 3);
        x.mirror(0, 10, 3);
        x.mirror(0, 14, 3);
        x.set(SunMirrors.LIMIT, 120);
        Check.due("of like ones the lower number first", x.point(3, 5, 2), 1 | 2 | 4);
        Check.due("point(3, 5, 0)", x.point(3, 5, 0), 120);
        x.take(1);
        Check.due("of like ones the lower number first", x.point(3, 5, 2), 1 | 2 | 4);
        Check.due("point(3, 5, 1)", x.point(3, 5, 1), 15);
        x.set(SunMirrors.LIMIT, 1);
        Check.due("one that gives 0 is used", x.point(3, 5, 2), 1);
        Check.due("point(3, 0, 0)", x.point(3, 0, 0), 0);
        x.aim(3, 0);
        Check.due("point(3, 0, 1)", x.point(3, 0, 1), 7);
        Check.due("point(0, 0, 1)", x.point(0, 0, 1), 8);
        x.wind(99);
        Check.due("flat: all are used", x.point(3, 5, 2), 7);
        Check.due("flat: point(3, 5, 0)", x.point(3, 5, 0), 0);
    }

    private static void promise11Errors() {
        SunMirrors x = new SunMirrors();
        x.mirror(0, 0, 0);
        int[] noAims = {-1, 4, MIN, MAX};
        for (int wrong : noAims) {
            Check.changesNothing("point(" + wrong + ", 5, 0)", x, () -> x.point(wrong, 5, 0), SunMirrors.NO_SUCH);
            Check.changesNothing("point(" + wrong + ", 5, 3)", x, () -> x.point(wrong, 5, 3), SunMirrors.NO_SUCH);
        }
        int[] noHours = {-1, 11, MIN, MAX};
        for (int wrong : noHours) {
            Check.changesNothing("point(0, " + wrong + ", 0)", x, () -> x.point(0, wrong, 0), SunMirrors.NO_SUCH);
            Check.changesNothing("point(0, " + wrong + ", 3)", x, () -> x.point(0, wrong, 3), SunMirrors.NO_SUCH);
        }
        int[] wrongs = {-1, 3, MIN, MAX};
        for (int wrong : wrongs) {
            Check.changesNothing("point(3, 10, " + wrong + ")", x, () -> x.point(3, 10, wrong), SunMirrors.BAD_VALUE);
        }
    }

    private static void promise12Count() {
        SunMirrors x = new SunMirrors();
        x.mirror(0, 0, 0);
        x.pass(3);
        x.mirror(10, 19, 0);
        x.mirror(4, 10, 0);
        x.mirror(6, 10, 0);
        x.set(SunMirrors.LIMIT, 500);
        x.set(SunMirrors.WIND, 40);
        x.set(SunMirrors.DUST, 5);
        x.wind(41);
        x.pass(2);
        x.wind(40);
        Check.put(x, "x0;x1");
        int today = 0;
        for (int hour = 0; hour <= 10; hour++) {
            today += x.point(0, hour, 0);
        }
        int[] counts = {5, 4, 40, 0, 360 + 348 + 341, today, 8, 16 + 10 + 10 + 10, 500, 40, 5, 5, 6};
        for (int what = 0; what < counts.length; what++) {
            Check.due("count(" + what + ")", x.count(what), counts[what]);
        }
        Check.due("what a day would bring, it brings", x.pass(1), today);
        x.wind(41);
        Check.due("flat: count(3)", x.count(3), 1);
        Check.due("flat: count(5)", x.count(5), 0);
        int[] wrongs = {-1, 13, MIN, MAX};
        for (int wrong : wrongs) {
            Check.changesNothing("count(" + wrong + ")", x, () -> x.count(wrong), SunMirrors.BAD_VALUE);
        }
    }

    private static void promise13In() {
        SunMirrors x = new SunMirrors();
        x.mirror(0, 19, 0);
        x.mirror(19, 0, 0);
        x.mirror(7, 8, 0);
        Check.due("in(0, 19)", x.in(0, 19), 0);
        Check.due("in(19, 0)", x.in(19, 0), 1);
        Check.due("in(7, 8)", x.in(7, 8), 2);
        Check.due("in(8, 7)", x.in(8, 7), SunMirrors.NONE);
        Check.due("in(0, 0)", x.in(0, 0), SunMirrors.NONE);
        Check.due("in(19, 19)", x.in(19, 19), SunMirrors.NONE);
        int[] outside = {-1, 20, MIN, MAX};
        for (int wrong : outside) {
            Check.changesNothing("in(" + wrong + ", 0)", x, () -> x.in(wrong, 0), SunMirrors.NO_SUCH);
            Check.changesNothing("in(0, " + wrong + ")", x, () -> x.in(0, wrong), SunMirrors.NO_SUCH);
        }
        x.take(0);
        Check.due("in(0, 19)", x.in(0, 19), SunMirrors.NONE);
        Check.due("in(7, 8)", x.in(7, 8), 1);
    }
}
