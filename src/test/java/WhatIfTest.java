/** Promises 14 to 17: what would be if; nothing changes. */
final class WhatIfTest {
    private static final int MIN = Integer.MIN_VALUE;
    private static final int MAX = Integer.MAX_VALUE;

    public static void main(String[] args) {
        promise14WorthLeast();
        promise14Blocker();
        promise14LookingAway();
        promise14AfterOthers();
        promise15BestColumn();
        promise15Full();
        promise15Limit();
        promise15Errors();
        promise16ToWash();
        promise16Limit();
        promise17LeastLimit();
        promise17EachHour();
        Check.end("WhatIfTest");
    }

    private static void promise14WorthLeast() {
        SunMirrors x = new SunMirrors();
        Check.changesNothing("without mirrors: worthLeast(0)", x, () -> x.worthLeast(0), SunMirrors.NONE);
        Check.changesNothing("without mirrors: worthLeast(1)", x, () -> x.worthLeast(1), SunMirrors.NONE);
        int[] wrongs = {-1, 2, MIN, MAX};
        for (int wrong : wrongs) {
            Check.changesNothing("worthLeast(" + wrong + ")", x, () -> x.worthLeast(wrong), SunMirrors.BAD_VALUE);
        }
        x.mirror(0, 3, 0);
        Check.changesNothing("one mirror: worthLeast(0)", x, () -> x.worthLeast(0), 0);
        Check.changesNothing("one mirror: worthLeast(1)", x, () -> x.worthLeast(1), 0);
        x.mirror(10, 19, 1);
        x.mirror(5, 7, 2);
        x.mirror(10, 0, 3);
        Check.due("nothing shades or blocks", x.count(5), 360 + 236 + 288 + 236);
        Check.changesNothing("worthLeast(0)", x, () -> x.worthLeast(0), 1);
        Check.changesNothing("worthLeast(1)", x, () -> x.worthLeast(1), 360 + 288 + 236);
        for (int wrong : wrongs) {
            Check.changesNothing("worthLeast(" + wrong + ")", x, () -> x.worthLeast(wrong), SunMirrors.BAD_VALUE);
        }
        x.wind(99);
        Check.due("flat: worthLeast(0)", x.worthLeast(0), 0);
        Check.due("flat: worthLeast(1)", x.worthLeast(1), 0);
    }

    /** The mirror in row 2 gives the most, but blocks four. */
    private static void promise14Blocker() {
        SunMirrors x = new SunMirrors();
        x.mirror(19, 0, 0);
        x.mirror(6, 10, 0);
        x.mirror(2, 10, 1);
        x.mirror(5, 10, 2);
        Check.due("worthLeast(0)", x.worthLeast(0), 1);
        int without = x.worthLeast(1);
        x.take(1);
        Check.due("worthLeast(1)", without, x.count(5));
    }

    /** By LIMIT 60 one of two in row 0 looks away at each point from hour 3 on, so either is worth least. */
    private static void promise14LookingAway() {
        SunMirrors x = new SunMirrors();
        x.mirror(0, 19, 2);
        x.mirror(0, 0, 1);
        x.mirror(0, 4, 1);
        x.set(SunMirrors.LIMIT, 60);
        Check.due("count(5)", x.count(5), 360 + 360 + 2 * (10 + 20 + 30));
        Check.due("worthLeast(0)", x.worthLeast(0), 1);
        Check.due("worthLeast(1)", x.worthLeast(1), 720);
    }

    /** Nothing of a question before is left. */
    private static void promise14AfterOthers() {
        SunMirrors x = new SunMirrors();
        Check.due("bestColumn(0, 0, 1)", x.bestColumn(0, 0, 1), 360);
        Check.due("without mirrors: worthLeast(0)", x.worthLeast(0), SunMirrors.NONE);
        Check.due("without mirrors: worthLeast(1)", x.worthLeast(1), SunMirrors.NONE);
        Check.due("without mirrors: toWash()", x.toWash(), SunMirrors.NONE);
        x.mirror(19, 0, 0);
        Check.due("bestColumn(0, 0, 1)", x.bestColumn(0, 0, 1), 540);
        Check.due("toWash()", x.toWash(), 0);
        Check.due("worthLeast(1)", x.worthLeast(1), 0);
    }

    private static void promise15BestColumn() {
        SunMirrors x = new SunMirrors();
        Check.changesNothing("bestColumn(0, 0, 0)", x, () -> x.bestColumn(0, 0, 0), 0);
        Check.changesNothing("bestColumn(0, 0, 1)", x, () -> x.bestColumn(0, 0, 1), 360);
        Check.changesNothing("bestColumn(19, 3, 0)", x, () -> x.bestColumn(19, 3, 0), 0);
        Check.changesNothing("bestColumn(19, 3, 1)", x, () -> x.bestColumn(19, 3, 1), 180);
        x.mirror(10, 0, 0);
        x.mirror(10, 2, 0);
        Check.changesNothing("bestColumn(10, 1, 0)", x, () -> x.bestColumn(10, 1, 0), 1);
        Check.changesNothing("bestColumn(10, 1, 1)", x, () -> x.bestColumn(10, 1, 1), 3 * 236);
        x.mirror(9, 1, 0);
        Check.due("(9, 1) shades (10, 0) and (10, 2) in an hour each", x.count(5),
            2 * (236 - 33) + 2 * (6 + 13 + 20 + 27 + 34) + 41);
        Check.due("(9, 1) shades every place up to column 6", x.bestColumn(10, 1, 0), 7);
        Check.due("bestColumn(10, 1, 1)", x.bestColumn(10, 1, 1), x.count(5) + 236);
        x.wind(99);
        Check.due("flat: bestColumn(10, 1, 0)", x.bestColumn(10, 1, 0), 1);
        Check.due("flat: bestColumn(10, 1, 1)", x.bestColumn(10, 1, 1), 0);
    }

    private static void promise15Full() {
        SunMirrors x = new SunMirrors();
        for (int column = 0; column < 20; column++) {
            x.mirror(4, column, column % 4);
        }
        Check.changesNothing("full row: bestColumn(4, 0, 0)", x, () -> x.bestColumn(4, 0, 0), SunMirrors.NONE);
        Check.changesNothing("full row: bestColumn(4, 0, 1)", x, () -> x.bestColumn(4, 0, 1), SunMirrors.NONE);
        Check.changesNothing("full row: bestColumn(4, 0, 2)", x, () -> x.bestColumn(4, 0, 2), SunMirrors.BAD_VALUE);
        Check.changesNothing("full row: bestColumn(4, 4, 0)", x, () -> x.bestColumn(4, 4, 0), SunMirrors.BAD_VALUE);
        x.take(17);
        Check.due("the last free place", x.bestColumn(4, 0, 0), 17);
        x.set(SunMirrors.LIMIT, 9999);
        for (int number = 0; number < 5; number++) {
            x.mirror(19, 15 + number, 0);
        }
        Check.due("24 mirrors", x.count(1), 24);
        Check.changesNothing("24 mirrors: bestColumn(4, 0, 0)", x, () -> x.bestColumn(4, 0, 0), 17);
        int more = x.bestColumn(4, 0, 1);
        int before = x.count(5);
        x.take(23);
        x.take(22);
        int without = x.count(5);
        Check.due("those in row 19 bring", before - without, 2 * 180);
        x.mirror(4, 17, 0);
        Check.due("24 mirrors: bestColumn(4, 0, 1)", more, x.count(5) + 2 * 180);
    }

    /** The new one comes last among like ones, and may look away. */
    private static void promise15Limit() {
        SunMirrors x = new SunMirrors();
        x.mirror(0, 5, 2);
        x.set(SunMirrors.LIMIT, 60);
        Check.due("at the same point", x.bestColumn(0, 2, 1), 360 + 2 * (10 + 20 + 30));
        Check.due("at another", x.bestColumn(0, 1, 1), 720);
        Check.due("the lowest", x.bestColumn(0, 1, 0), 0);
    }

    private static void promise15Errors() {
        SunMirrors x = new SunMirrors();
        int[] noRows = {-1, 20, MIN, MAX};
        for (int wrong : noRows) {
            Check.changesNothing("bestColumn(" + wrong + ")", x, () -> x.bestColumn(wrong, 0, 0), SunMirrors.BAD_VALUE);
        }
        int[] noAims = {-1, 4, MIN, MAX};
        for (int wrong : noAims) {
            Check.changesNothing("bestColumn(0, " + wrong + ")", x, () -> x.bestColumn(0, wrong, 0),
                SunMirrors.BAD_VALUE);
        }
        int[] wrongs = {-1, 2, MIN, MAX};
        for (int wrong : wrongs) {
            Check.changesNothing("bestColumn(0, 0, " + wrong + ")", x, () -> x.bestColumn(0, 0, wrong),
                SunMirrors.BAD_VALUE);
        }
    }

    private static void promise16ToWash() {
        SunMirrors x = new SunMirrors();
        Check.changesNothing("without mirrors: toWash()", x, () -> x.toWash(), SunMirrors.NONE);
        x.mirror(10, 19, 0);
        x.mirror(0, 3, 1);
        x.mirror(0, 8, 2);
        Check.changesNothing("all clean: toWash()", x, () -> x.toWash(), 0);
        x.pass(10);
        Check.changesNothing("all alike: toWash()", x, () -> x.toWash(), 1);
        x.wash(1);
        Check.changesNothing("(0, 3) is clean: toWash()", x, () -> x.toWash(), 2);
        x.wash(2);
        Check.changesNothing("(0, 8) is clean: toWash()", x, () -> x.toWash(), 0);
        x.wind(99);
        x.wash(0);
        x.pass(9);
        Check.changesNothing("flat: toWash()", x, () -> x.toWash(), 0);
    }

    /** Washing (0, 0) would make it too much for its point at noon: it would look away then. */
    private static void promise16Limit() {
        SunMirrors x = new SunMirrors();
        x.mirror(0, 0, 0);
        x.mirror(19, 19, 1);
        x.set(SunMirrors.DUST, 1);
        x.pass(8);
        x.set(SunMirrors.LIMIT, 55);
        Check.due("count(5)", x.count(5), 2 * (9 + 18 + 27 + 36 + 46) + 55 + 2 * (4 + 9 + 14 + 18 + 23) + 28);
        Check.due("toWash()", x.toWash(), 1);
    }

    private static void promise17LeastLimit() {
        SunMirrors x = new SunMirrors();
        Check.changesNothing("without mirrors: leastLimit()", x, () -> x.leastLimit(), 1);
        x.mirror(0, 0, 1);
        x.set(SunMirrors.LIMIT, 7);
        Check.changesNothing("one: leastLimit()", x, () -> x.leastLimit(), 60);
        x.mirror(5, 7, 2);
        x.mirror(10, 19, 2);
        Check.changesNothing("two points: leastLimit()", x, () -> x.leastLimit(), 88);
        x.mirror(9, 19, 3);
        Check.due("(9, 19) shades (10, 19) at noon", x.at(2, 5, 3), 3);
        Check.changesNothing("the most is not at noon: leastLimit()", x, () -> x.leastLimit(), 40 + 33);
        x.wind(99);
        Check.changesNothing("flat: leastLimit()", x, () -> x.leastLimit(), 1);
        SunMirrors y = new SunMirrors();
        for (int column = 0; column < 20; column++) {
            y.mirror(0, column, 0);
        }
        Check.due("20 in row 0: leastLimit()", y.leastLimit(), 1200);
        y.set(SunMirrors.LIMIT, 1199);
        Check.due("by 1199 one looks away", y.point(0, 5, 2), (1 << 19) - 1);
        y.set(SunMirrors.LIMIT, 1200);
        Check.due("by 1200 none does", y.point(0, 5, 2), (1 << 20) - 1);
    }

    /** A row of mirrors full of dust shades one behind it in all hours but one: the day brings what that hour does. */
    private static void promise17EachHour() {
        int[] gives = {6, 13, 20, 26, 33, 40, 33, 26, 20, 13, 6};
        for (int free = 0; free <= 10; free++) {
            SunMirrors x = new SunMirrors();
            for (int hour = 0; hour <= 10; hour++) {
                if (hour != free) {
                    x.mirror(9, 8 + 5 - hour, 0);
                }
            }
            x.set(SunMirrors.DUST, 20);
            x.pass(5);
            x.mirror(10, 8, 0);
            Check.due("hour " + free + ": leastLimit()", x.leastLimit(), gives[free]);
            Check.due("hour " + free + ": count(5)", x.count(5), gives[free]);
            Check.due("hour " + free + ": the one that shades at noon", x.worthLeast(0), free > 5 ? 5 : 4);
            Check.due("hour " + free + ": worthLeast(1)", x.worthLeast(1), gives[free] + (free == 5 ? 33 : 40));
            Check.due("hour " + free + ": pass(1)", x.pass(1), gives[free]);
        }
    }
}
