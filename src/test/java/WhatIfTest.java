/** Promises 14 to 17: what would be if; nothing changes. */
final class WhatIfTest {
    private static final int MIN = Check.MIN;
    private static final int MAX = Check.MAX;
    private static final int BAD_VALUE = SunMirrors.BAD_VALUE;
    private static final int NONE = SunMirrors.NONE;
    private static final int LIMIT = SunMirrors.LIMIT;

    public static void main(String[] args) {
        sentences();
        Check.end("WhatIfTest");
    }

    static void sentences() {
        promise14Arguments();
        promise14WorthLeast();
        promise14Others();
        promise15Arguments();
        promise15BestColumn();
        promise15Others();
        promise16ToWash();
        promise17LeastLimit();
        promise17EveryHour();
    }

    /** A full field with dust on the last mirror alone. */
    private static Recorded fullWithDust() {
        Recorded x = Recorded.full();
        x.pass(5);
        for (int mirror = 0; mirror < 23; mirror++) {
            x.wash(mirror);
        }
        return x;
    }

    private static void promise14Arguments() {
        Check.sentence("14: BAD_VALUE if what is neither 0 nor 1", () -> {
            Recorded x = Recorded.with(new int[][] {{0, 3, 0}});
            for (int wrong : new int[] {-1, 2, MIN, MAX}) {
                Check.changesNothing("worthLeast(" + wrong + ")", x, () -> x.worthLeast(wrong), BAD_VALUE);
                Check.due("without mirrors", new Recorded().worthLeast(wrong), BAD_VALUE);
            }
        });
        Check.sentence("14: NONE without mirrors", () -> {
            Recorded x = new Recorded();
            Check.changesNothing("worthLeast(0)", x, () -> x.worthLeast(0), NONE);
            Check.changesNothing("worthLeast(1)", x, () -> x.worthLeast(1), NONE);
            x.mirror(0, 0, 0);
            Check.due("with one: worthLeast(0)", x.worthLeast(0), 0);
            Check.due("with one: worthLeast(1)", x.worthLeast(1), 0);
            x.take(0);
            Check.due("without it: worthLeast(0)", x.worthLeast(0), NONE);
            Check.due("without it: worthLeast(1)", x.worthLeast(1), NONE);
        });
    }

    private static void promise14WorthLeast() {
        Check.sentence("14: 0 the mirror without which a day would bring the most", () -> {
            Recorded x = Recorded.with(new int[][] {{0, 3, 0}, {5, 7, 2}, {10, 19, 1}, {1, 15, 3}});
            Check.changesNothing("worthLeast(0)", x, () -> x.worthLeast(0), 2);
            Recorded y = Recorded.with(new int[][] {{19, 0, 0}, {6, 10, 0}, {2, 10, 1}, {5, 10, 2}});
            Check.due("(6, 10) is blocked", y.worthLeast(0), 1);
        });
        Check.sentence("14: 1 what it would bring", () -> {
            Recorded x = Recorded.with(new int[][] {{0, 3, 0}, {5, 7, 2}, {10, 19, 1}});
            Check.changesNothing("worthLeast(1)", x, () -> x.worthLeast(1), 360 + 288);
            x.take(2);
            Check.due("count(5)", x.count(5), 360 + 288);
        });
        Check.sentence("14: of several the lowest one", () -> {
            Recorded x = Recorded.with(new int[][] {{0, 0, 0}, {10, 19, 1}, {10, 0, 3}});
            Check.due("1 and 2 alike", x.worthLeast(0), 1);
            Check.due("1 and 2 alike", x.worthLeast(1), 360 + 236);
            Recorded y = Recorded.with(new int[][] {{0, 0, 0}, {0, 9, 1}, {0, 19, 2}});
            Check.due("all alike", y.worthLeast(0), 0);
            y.wind(99);
            Check.due("flat, all alike", y.worthLeast(0), 0);
            Check.due("flat", y.worthLeast(1), 0);
        });
        Check.sentence("14: of 24 mirrors", () -> {
            Recorded x = Recorded.full();
            x.take(23);
            x.mirror(4, 10, 0);
            Check.due("the last is blocked", x.of(23, 4), 1);
            Check.changesNothing("worthLeast(0)", x, () -> x.worthLeast(0), 23);
            Check.due("worthLeast(1)", x.worthLeast(1), 20 * 360 + 3 * 180);
        });
    }

    private static void promise14Others() {
        Check.sentence("14: without it others are shaded and blocked no more", () -> {
            Recorded x = Recorded.with(new int[][] {{4, 10, 0}, {0, 0, 1}, {6, 10, 2}, {8, 10, 3}});
            x.set(SunMirrors.DUST, 20);
            x.pass(4);
            x.wash(2);
            Check.due("(8, 10) and (6, 10) are blocked", x.count(6), 4 | 8);
            Check.due("without (4, 10) the clean (6, 10) is free", x.worthLeast(0), 0);
            int without = x.worthLeast(1);
            x.take(0);
            Check.due("worthLeast(1)", without, x.count(5));
            Recorded y = Recorded.with(new int[][] {{10, 3, 0}, {9, 3, 0}});
            y.set(SunMirrors.DUST, 1);
            Check.due("without (9, 3), not shaded: 236; without (10, 3): 241", y.worthLeast(1), 241);
        });
        Check.sentence("14: without it others look away no more", () -> {
            Recorded x = Recorded.with(new int[][] {{0, 19, 2}, {0, 0, 1}, {0, 4, 1}});
            x.set(LIMIT, 60);
            Check.due("count(5)", x.count(5), 360 + 360 + 2 * (10 + 20 + 30));
            Check.due("either of two at a point", x.worthLeast(0), 1);
            Check.due("the other one is used instead", x.worthLeast(1), 720);
        });
        Check.sentence("14: nothing of a question before is left", () -> {
            Recorded x = new Recorded();
            Check.due("bestColumn(0, 0, 1)", x.bestColumn(0, 0, 1), 360);
            Check.due("worthLeast(0)", x.worthLeast(0), NONE);
            Check.due("worthLeast(1)", x.worthLeast(1), NONE);
            Check.due("toWash()", x.toWash(), NONE);
            x.mirror(19, 0, 0);
            Check.due("bestColumn(0, 0, 1)", x.bestColumn(0, 0, 1), 540);
            Check.due("toWash()", x.toWash(), 0);
            Check.due("worthLeast(1)", x.worthLeast(1), 0);
        });
    }

    private static void promise15Arguments() {
        Check.sentence("15: BAD_VALUE if the row is out of range", () -> {
            Recorded x = Recorded.with(new int[][] {{5, 5, 0}});
            for (int wrong : new int[] {-1, 20, MIN, MAX}) {
                Check.changesNothing("bestColumn(" + wrong + ", 0, 0)", x, () -> x.bestColumn(wrong, 0, 0), BAD_VALUE);
            }
            Check.due("bestColumn(0, 0, 1)", new Recorded().bestColumn(0, 0, 1), 360);
            Check.due("bestColumn(19, 0, 1)", new Recorded().bestColumn(19, 0, 1), 180);
        });
        Check.sentence("15: BAD_VALUE if the aim point is out of range", () -> {
            Recorded x = Recorded.with(new int[][] {{5, 5, 0}});
            for (int wrong : new int[] {-1, 4, MIN, MAX}) {
                Check.changesNothing("bestColumn(0, " + wrong + ", 0)", x, () -> x.bestColumn(0, wrong, 0), BAD_VALUE);
            }
            Check.due("bestColumn(0, 0, 0)", x.bestColumn(0, 0, 0), 0);
            Check.due("bestColumn(0, 3, 0)", x.bestColumn(0, 3, 0), 0);
        });
        Check.sentence("15: BAD_VALUE if what is out of range", () -> {
            Recorded x = Recorded.with(new int[][] {{5, 5, 0}});
            for (int wrong : new int[] {-1, 2, MIN, MAX}) {
                Check.changesNothing("bestColumn(0, 0, " + wrong + ")", x, () -> x.bestColumn(0, 0, wrong), BAD_VALUE);
            }
        });
        Check.sentence("15: BAD_VALUE before NONE", () -> {
            Recorded x = Recorded.full();
            Check.due("bestColumn(0, 0, 2)", x.bestColumn(0, 0, 2), BAD_VALUE);
            Check.due("bestColumn(0, 4, 0)", x.bestColumn(0, 4, 0), BAD_VALUE);
        });
    }

    private static void promise15BestColumn() {
        Check.sentence("15: NONE if the row is full", () -> {
            for (int row : new int[] {0, 4, 19}) {
                Recorded x = new Recorded();
                for (int column = 0; column < 20; column++) {
                    x.mirror(row, column, column % 4);
                }
                Check.changesNothing("bestColumn(0)", x, () -> x.bestColumn(row, 0, 0), NONE);
                Check.changesNothing("bestColumn(1)", x, () -> x.bestColumn(row, 0, 1), NONE);
                Check.due("another row", x.bestColumn(10, 0, 0) >= 0 ? 1 : 0, 1);
                x.take(17);
                Check.due("one place is free: bestColumn(0)", x.bestColumn(row, 0, 0), 17);
            }
        });
        Check.sentence("15: places that are taken are left out", () -> {
            Recorded x = Recorded.with(new int[][] {{3, 0, 0}, {3, 1, 0}});
            Check.due("0 and 1 are taken", x.bestColumn(3, 1, 0), 2);
            for (int free = 0; free < 20; free++) {
                Recorded y = new Recorded();
                for (int column = 0; column < 20; column++) {
                    if (column != free) {
                        y.mirror(7, column, 0);
                    }
                }
                Check.due("only " + free + " is free", y.bestColumn(7, 1, 0), free);
            }
        });
        Check.sentence("15: also if there are 24 mirrors", () -> {
            Recorded x = Recorded.full();
            x.set(SunMirrors.DUST, 20);
            x.pass(5);
            Check.due("what there is is full of dust", x.count(5), 0);
            Check.changesNothing("bestColumn(19, 0, 0)", x, () -> x.bestColumn(19, 0, 0), 4);
            Check.changesNothing("bestColumn(19, 0, 1)", x, () -> x.bestColumn(19, 0, 1), 180);
            Check.due("count(1)", x.count(1), 24);
        });
        Check.sentence("15: 0 the column in which it would let a day bring the most", () -> {
            Recorded x = Recorded.with(new int[][] {{10, 5, 0}});
            Check.due("up to column 10 it would shade (10, 5)", x.bestColumn(9, 1, 0), 11);
            Recorded y = Recorded.with(new int[][] {{10, 0, 0}, {10, 2, 0}, {9, 1, 0}});
            Check.due("up to column 6 (9, 1) shades it", y.bestColumn(10, 1, 0), 7);
        });
        Check.sentence("15: 1 what it would bring", () -> {
            Recorded x = Recorded.with(new int[][] {{10, 5, 0}});
            Check.due("236 and 241", x.bestColumn(9, 1, 1), 236 + 241);
            x.mirror(9, 11, 1);
            Check.due("count(5)", x.count(5), 236 + 241);
        });
        Check.sentence("15: of several the lowest one", () -> {
            Check.due("all alike", new Recorded().bestColumn(6, 0, 0), 0);
            Recorded x = Recorded.with(new int[][] {{6, 0, 0}});
            Check.due("all but one alike", x.bestColumn(6, 1, 0), 1);
            x.wind(99);
            Check.due("flat, all alike", x.bestColumn(7, 1, 0), 0);
            Check.due("flat", x.bestColumn(7, 1, 1), 0);
        });
    }

    private static void promise15Others() {
        Check.sentence("15: at an aim point", () -> {
            Recorded x = Recorded.with(new int[][] {{0, 5, 2}});
            x.set(LIMIT, 60);
            Check.due("at the same point one looks away", x.bestColumn(0, 2, 1), 360 + 2 * (10 + 20 + 30));
            for (int aim : new int[] {0, 1, 3}) {
                Check.due("at another", x.bestColumn(0, aim, 1), 720);
            }
        });
        Check.sentence("15: a mirror more has no dust", () -> {
            Recorded x = Recorded.with(new int[][] {{0, 5, 2}});
            x.set(LIMIT, 60);
            x.pass(10);
            Check.due("one with dust 20 gives less and is looked at later", x.bestColumn(0, 2, 1),
                360 + 2 * (8 + 16 + 24));
        });
        Check.sentence("15: nobody stands in a place that was tried", () -> {
            Recorded x = Recorded.with(new int[][] {{10, 5, 0}});
            x.bestColumn(9, 0, 0);
            Check.due("at noon it is not shaded", x.at(0, 5, 0), 0);
            Check.due("in(9, 11)", x.in(9, 11), NONE);
            Check.due("count(5)", x.count(5), 236);
            x.pass(1);
            Check.due("pass(1)", x.count(4), 236);
        });
    }

    private static void promise16ToWash() {
        Check.sentence("16: NONE without mirrors", () -> {
            Recorded x = new Recorded();
            Check.changesNothing("toWash()", x, () -> x.toWash(), NONE);
            x.mirror(0, 0, 0);
            Check.due("with one", x.toWash(), 0);
            x.take(0);
            Check.due("without it", x.toWash(), NONE);
        });
        Check.sentence("16: the mirror by whose washing a day would bring the most", () -> {
            Recorded x = Recorded.with(new int[][] {{10, 19, 0}, {5, 3, 1}, {0, 8, 2}});
            x.pass(10);
            Check.changesNothing("all have 20", x, () -> x.toWash(), 2);
            x.wash(2);
            Check.due("(0, 8) is clean", x.toWash(), 1);
            x.wash(1);
            Check.due("(5, 3) is clean", x.toWash(), 0);
            Check.due("nothing is washed by it", x.count(7), 20);
        });
        Check.sentence("16: of several the lowest one", () -> {
            Recorded x = Recorded.with(new int[][] {{10, 19, 0}, {0, 3, 1}, {0, 8, 2}});
            Check.due("all are clean", x.toWash(), 0);
            x.pass(10);
            Check.due("1 and 2 alike", x.toWash(), 1);
            x.wind(99);
            Check.due("flat, all alike", x.toWash(), 0);
        });
        Check.sentence("16: of 24 mirrors", () -> {
            Recorded x = fullWithDust();
            Check.changesNothing("only the last has dust", x, () -> x.toWash(), 23);
            x.wash(23);
            Check.due("all are clean", x.toWash(), 0);
        });
        Check.sentence("16: a day would bring less by one that then looks away", () -> {
            Recorded x = Recorded.with(new int[][] {{0, 0, 0}, {19, 19, 1}});
            x.set(SunMirrors.DUST, 1);
            x.pass(8);
            x.set(LIMIT, 55);
            Check.due("count(5)", x.count(5), 2 * (9 + 18 + 27 + 36 + 46) + 55 + 2 * (4 + 9 + 14 + 18 + 23) + 28);
            Check.due("toWash()", x.toWash(), 1);
        });
        Check.sentence("16: one that is blocked is worth no washing", () -> {
            Recorded x = Recorded.with(new int[][] {{6, 10, 0}, {5, 10, 1}, {19, 0, 2}});
            x.pass(40);
            x.wash(1);
            Check.due("(6, 10) is blocked, (5, 10) clean", x.toWash(), 2);
        });
    }

    private static void promise17LeastLimit() {
        Check.sentence("17: the least LIMIT is 1", () -> {
            Recorded x = new Recorded();
            Check.changesNothing("without mirrors", x, () -> x.leastLimit(), 1);
            x.mirror(0, 0, 0);
            x.wind(51);
            Check.due("flat", x.leastLimit(), 1);
            x.wind(50);
            x.set(SunMirrors.DUST, 20);
            x.pass(5);
            Check.due("full of dust", x.leastLimit(), 1);
            Recorded y = Recorded.with(new int[][] {{19, 0, 0}});
            y.set(SunMirrors.DUST, 19);
            y.pass(5);
            Check.due("5 * 6 * 20 / 39 / 10", y.leastLimit(), 1);
        });
        Check.sentence("17: the least by which no mirror would look away", () -> {
            Recorded x = Recorded.with(new int[][] {{0, 0, 1}, {5, 7, 2}, {10, 19, 2}});
            Check.changesNothing("leastLimit()", x, () -> x.leastLimit(), 88);
            x.set(LIMIT, 88);
            Check.due("by it none does", x.point(2, 5, 2), 6);
            x.set(LIMIT, 87);
            Check.due("by 1 less one does", x.point(2, 5, 2), 2);
            x.aim(1, 3);
            Check.due("of each point alone", x.leastLimit(), 60);
        });
        Check.sentence("17: whatever LIMIT is", () -> {
            Recorded x = Recorded.with(new int[][] {{0, 0, 1}, {0, 9, 1}});
            for (int limit : new int[] {1, 59, 60, 119, 120, 121, 9999}) {
                x.set(LIMIT, limit);
                Check.due("by LIMIT " + limit, x.leastLimit(), 120);
                Check.due("LIMIT stays", x.count(8), limit);
            }
        });
        Check.sentence("17: of a field that is full", () -> {
            Recorded x = new Recorded();
            for (int number = 0; number < 24; number++) {
                x.mirror(number / 20 * 2, number < 20 ? number : 2 * number - 39, 0);
            }
            Check.due("20 * 60 and 4 * 54", x.leastLimit(), 1416);
            x.set(LIMIT, 1415);
            Check.due("by 1415 one looks away", x.point(0, 5, 2), 0x7FFFFF);
            x.set(LIMIT, 1416);
            Check.due("by 1416 none does", x.point(0, 5, 2), 0xFFFFFF);
        });
    }

    /** A row of mirrors full of dust shades one behind it in all hours but one. */
    private static void promise17EveryHour() {
        Check.sentence("17: in any hour", () -> {
            int[] gives = {6, 13, 20, 26, 33, 40, 33, 26, 20, 13, 6};
            for (int free = 0; free <= 10; free++) {
                Recorded x = new Recorded();
                for (int hour = 0; hour <= 10; hour++) {
                    if (hour != free) {
                        x.mirror(9, 8 + 5 - hour, 0);
                    }
                }
                x.set(SunMirrors.DUST, 20);
                x.pass(5);
                x.mirror(10, 8, 0);
                Check.due("hour " + free + ": leastLimit()", x.leastLimit(), gives[free]);
                Check.due("hour " + free + ": the one that shades at noon", x.worthLeast(0), free > 5 ? 5 : 4);
                Check.due("hour " + free + ": worthLeast(1)", x.worthLeast(1), gives[free] + (free == 5 ? 33 : 40));
            }
            Recorded y = Recorded.with(new int[][] {{0, 0, 1}, {10, 19, 2}, {9, 19, 3}, {5, 7, 2}});
            y.take(0);
            Check.due("(9, 19) shades (10, 19) at noon", y.at(0, 5, 3), 1);
            Check.due("the most is not at noon", y.leastLimit(), 40 + 33);
        });
    }
}
