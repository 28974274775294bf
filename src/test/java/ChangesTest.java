/** Promises 1 to 8: a new object, and the changes. */
final class ChangesTest {
    private static final int MIN = Integer.MIN_VALUE;
    private static final int MAX = Integer.MAX_VALUE;

    public static void main(String[] args) {
        promise1NewObject();
        promise2Set();
        promise2SettingsAct();
        promise3Mirror();
        promise3FullField();
        promise4Take();
        promise5Aim();
        promise6Wash();
        promise7Wind();
        promise8PassOneMirror();
        promise8PassErrors();
        promise8PassUsedOnly();
        Check.end("ChangesTest");
    }

    private static void promise1NewObject() {
        SunMirrors x = new SunMirrors();
        int[] counts = {0, 0, 0, 0, 0, 0, 0, 0, 400, 50, 2, 0, 0};
        for (int what = 0; what < counts.length; what++) {
            Check.due("new: count(" + what + ")", x.count(what), counts[what]);
        }
        for (int place = 0; place < 400; place++) {
            Check.due("new: in", x.in(place / 20, place % 20), SunMirrors.NONE);
        }
        Check.due("new: undo()", x.undo(), SunMirrors.NOT_POSSIBLE);
        Check.due("new: restore(0)", x.restore(0), SunMirrors.NOT_POSSIBLE);
        Check.due("new: restore(1)", x.restore(1), SunMirrors.NOT_POSSIBLE);
        Check.due("new: fault()", x.fault(), 0);
        Check.due("new: carryOut()", x.carryOut(), SunMirrors.BAD_TEXT);
        Check.due("new: wipe()", x.wipe(), 0);
        for (int aim = 0; aim <= 3; aim++) {
            for (int hour = 0; hour <= 10; hour++) {
                for (int what = 0; what <= 2; what++) {
                    Check.due("new: point", x.point(aim, hour, what), 0);
                }
            }
        }
        SunMirrors y = new SunMirrors();
        y.mirror(1, 1, 0);
        Check.due("objects are apart", x.count(1), 0);
    }

    private static void promise2Set() {
        SunMirrors x = new SunMirrors();
        Check.due("set(LIMIT, 1)", x.set(SunMirrors.LIMIT, 1), 400);
        Check.due("set(LIMIT, 9999)", x.set(SunMirrors.LIMIT, 9999), 1);
        Check.due("set(LIMIT, 9999) again", x.set(SunMirrors.LIMIT, 9999), 9999);
        Check.due("set(WIND, 1)", x.set(SunMirrors.WIND, 1), 50);
        Check.due("set(WIND, 99)", x.set(SunMirrors.WIND, 99), 1);
        Check.due("set(DUST, 0)", x.set(SunMirrors.DUST, 0), 2);
        Check.due("set(DUST, 20)", x.set(SunMirrors.DUST, 20), 0);
        Check.due("count(8)", x.count(8), 9999);
        Check.due("count(9)", x.count(9), 99);
        Check.due("count(10)", x.count(10), 20);
        int[][] wrong = {{0, 0}, {0, -1}, {0, 10000}, {0, MIN}, {0, MAX}, {1, 0}, {1, 100}, {1, MIN}, {1, MAX},
            {2, -1}, {2, 21}, {2, MIN}, {2, MAX}, {-1, 5}, {3, 5}, {MIN, 5}, {MAX, 5}};
        for (int[] pair : wrong) {
            Check.changesNothing("set(" + pair[0] + ", " + pair[1] + ")", x, () -> x.set(pair[0], pair[1]),
                SunMirrors.BAD_VALUE);
        }
        Check.due("set() is a change", x.count(12), 6);
        Check.due("undo() of set()", x.undo(), 5);
        Check.due("count(10) after undo()", x.count(10), 0);
    }

    private static void promise2SettingsAct() {
        SunMirrors x = new SunMirrors();
        x.mirror(0, 0, 0);
        x.set(SunMirrors.LIMIT, 59);
        Check.due("60 by LIMIT 59", x.at(0, 5, 2), 0);
        x.set(SunMirrors.LIMIT, 60);
        Check.due("60 by LIMIT 60", x.at(0, 5, 2), 1);
        x.wind(30);
        x.set(SunMirrors.WIND, 30);
        Check.due("wind 30 by WIND 30", x.count(3), 0);
        x.set(SunMirrors.WIND, 29);
        Check.due("wind 30 by WIND 29", x.count(3), 1);
        x.set(SunMirrors.DUST, 0);
        x.pass(7);
        Check.due("dust by DUST 0", x.of(0, 3), 0);
        x.set(SunMirrors.DUST, 7);
        x.pass(7);
        Check.due("dust by DUST 7", x.of(0, 3), 49);
    }

    private static void promise3Mirror() {
        SunMirrors x = new SunMirrors();
        Check.due("mirror(0, 0, 0)", x.mirror(0, 0, 0), 0);
        Check.due("mirror(19, 19, 3)", x.mirror(19, 19, 3), 1);
        Check.due("mirror(0, 19, 1)", x.mirror(0, 19, 1), 2);
        Check.due("mirror(19, 0, 2)", x.mirror(19, 0, 2), 3);
        int[][] facts = {{0, 0, 0}, {19, 19, 3}, {0, 19, 1}, {19, 0, 2}};
        for (int mirror = 0; mirror < 4; mirror++) {
            for (int what = 0; what < 3; what++) {
                Check.due("of(" + mirror + ", " + what + ")", x.of(mirror, what), facts[mirror][what]);
            }
            Check.due("of(" + mirror + ", 3)", x.of(mirror, 3), 0);
            Check.due("of(" + mirror + ", 5)", x.of(mirror, 5), 0);
        }
        int[] outside = {-1, 20, MIN, MAX};
        for (int wrong : outside) {
            Check.changesNothing("mirror(row " + wrong + ")", x, () -> x.mirror(wrong, 5, 0), SunMirrors.BAD_VALUE);
            Check.changesNothing("mirror(column " + wrong + ")", x, () -> x.mirror(5, wrong, 0), SunMirrors.BAD_VALUE);
        }
        int[] noAims = {-1, 4, MIN, MAX};
        for (int wrong : noAims) {
            Check.changesNothing("mirror(aim " + wrong + ")", x, () -> x.mirror(5, 5, wrong), SunMirrors.BAD_VALUE);
            Check.changesNothing("mirror(taken, aim " + wrong + ")", x, () -> x.mirror(0, 0, wrong),
                SunMirrors.BAD_VALUE);
        }
        Check.changesNothing("mirror(taken)", x, () -> x.mirror(19, 0, 1), SunMirrors.NOT_POSSIBLE);
        Check.due("mirror() is a change", x.count(12), 4);
        Check.due("undo() of mirror()", x.undo(), 3);
        Check.due("count(1) after undo()", x.count(1), 3);
        Check.due("in(19, 0) after undo()", x.in(19, 0), SunMirrors.NONE);
    }

    private static void promise3FullField() {
        SunMirrors x = new SunMirrors();
        for (int number = 0; number < 24; number++) {
            Check.due("mirror " + number, x.mirror(number / 20, number % 20, number % 4), number);
        }
        Check.changesNothing("full: mirror(free)", x, () -> x.mirror(10, 10, 0), SunMirrors.TOO_MANY);
        Check.changesNothing("full: mirror(taken)", x, () -> x.mirror(1, 3, 0), SunMirrors.NOT_POSSIBLE);
        Check.changesNothing("full: mirror(wrong)", x, () -> x.mirror(10, 10, 4), SunMirrors.BAD_VALUE);
        Check.due("full: take(0)", x.take(0), 23);
        Check.due("mirror(0, 0) again", x.mirror(0, 0, 0), 23);
    }

    private static void promise4Take() {
        SunMirrors x = new SunMirrors();
        x.mirror(0, 1, 1);
        x.pass(3);
        x.mirror(5, 2, 2);
        x.pass(2);
        x.mirror(10, 3, 3);
        x.mirror(15, 4, 0);
        int brought = x.of(1, 5);
        int all = x.count(4);
        Check.holds("something was brought", brought > 0 && all > brought);
        int[] none = {-1, 4, 23, 24, MIN, MAX};
        for (int wrong : none) {
            Check.changesNothing("take(" + wrong + ")", x, () -> x.take(wrong), SunMirrors.NO_SUCH);
        }
        Check.due("take(0)", x.take(0), 3);
        int[][] moved = {{5, 2, 2, 4}, {10, 3, 3, 0}, {15, 4, 0, 0}};
        for (int mirror = 0; mirror < 3; mirror++) {
            for (int what = 0; what < 4; what++) {
                Check.due("moved up: of(" + mirror + ", " + what + ")", x.of(mirror, what), moved[mirror][what]);
            }
        }
        Check.due("moved up: of(0, 5)", x.of(0, 5), brought);
        Check.due("all days brought the same", x.count(4), all);
        Check.due("in(0, 1)", x.in(0, 1), SunMirrors.NONE);
        Check.due("in(15, 4)", x.in(15, 4), 2);
        Check.due("take(2), the last", x.take(2), 2);
        Check.due("take(0)", x.take(0), 1);
        Check.due("of(0, 0)", x.of(0, 0), 10);
        Check.due("a new one", x.mirror(1, 1, 1), 1);
        Check.due("a new one has no dust", x.of(1, 3), 0);
        Check.due("a new one brought nothing", x.of(1, 5), 0);
        Check.due("take(1)", x.take(1), 1);
        Check.due("take(0)", x.take(0), 0);
        Check.changesNothing("take(0) of none", x, () -> x.take(0), SunMirrors.NO_SUCH);
        Check.due("undo()", x.undo(), 5);
        Check.due("back again", x.of(0, 0), 10);
    }

    private static void promise5Aim() {
        SunMirrors x = new SunMirrors();
        x.mirror(0, 0, 2);
        x.mirror(0, 5, 1);
        Check.due("aim(0, 3)", x.aim(0, 3), 2);
        Check.due("aim(0, 0)", x.aim(0, 0), 3);
        Check.due("aim(0, 0) again", x.aim(0, 0), 0);
        Check.due("of(0, 2)", x.of(0, 2), 0);
        Check.due("of(1, 2)", x.of(1, 2), 1);
        Check.due("aim() is a change, also of nothing", x.count(12), 5);
        int[] wrongAims = {-1, 4, MIN, MAX};
        for (int wrong : wrongAims) {
            Check.changesNothing("aim(0, " + wrong + ")", x, () -> x.aim(0, wrong), SunMirrors.BAD_VALUE);
            Check.changesNothing("aim(2, " + wrong + ")", x, () -> x.aim(2, wrong), SunMirrors.NO_SUCH);
        }
        int[] none = {-1, 2, 24, MIN, MAX};
        for (int wrong : none) {
            Check.changesNothing("aim(" + wrong + ", 0)", x, () -> x.aim(wrong, 0), SunMirrors.NO_SUCH);
        }
    }

    private static void promise6Wash() {
        SunMirrors x = new SunMirrors();
        x.mirror(0, 0, 0);
        x.mirror(0, 5, 0);
        Check.due("wash(0) of a clean one", x.wash(0), 0);
        x.pass(4);
        Check.due("wash(0)", x.wash(0), 8);
        Check.due("of(0, 3)", x.of(0, 3), 0);
        Check.due("of(1, 3)", x.of(1, 3), 8);
        Check.due("at(0, 5, 1)", x.at(0, 5, 1), 60);
        Check.due("at(1, 5, 1)", x.at(1, 5, 1), 55);
        Check.due("wash() is a change", x.count(12), 5);
        int[] none = {-1, 2, 24, MIN, MAX};
        for (int wrong : none) {
            Check.changesNothing("wash(" + wrong + ")", x, () -> x.wash(wrong), SunMirrors.NO_SUCH);
        }
        x.undo();
        Check.due("of(0, 3) after undo()", x.of(0, 3), 8);
    }

    private static void promise7Wind() {
        SunMirrors x = new SunMirrors();
        x.mirror(0, 0, 0);
        Check.due("wind(50)", x.wind(50), 0);
        Check.due("count(3)", x.count(3), 0);
        Check.due("wind(51)", x.wind(51), 1);
        Check.due("count(3)", x.count(3), 1);
        Check.due("count(2)", x.count(2), 51);
        Check.due("flat: at(0, 5, 1)", x.at(0, 5, 1), 0);
        Check.due("wind(99)", x.wind(99), 1);
        Check.due("set(WIND, 99)", x.set(SunMirrors.WIND, 99), 50);
        Check.due("wind(99)", x.wind(99), 0);
        Check.due("wind(0)", x.wind(0), 0);
        int[] outside = {-1, 100, MIN, MAX};
        for (int wrong : outside) {
            Check.changesNothing("wind(" + wrong + ")", x, () -> x.wind(wrong), SunMirrors.BAD_VALUE);
        }
        Check.due("wind() is a change", x.undo(), 5);
        Check.due("count(2)", x.count(2), 99);
        Check.due("without mirrors too", new SunMirrors().wind(51), 1);
    }

    private static void promise8PassOneMirror() {
        SunMirrors x = new SunMirrors();
        x.mirror(0, 0, 0);
        Check.due("pass(1)", x.pass(1), 360);
        Check.due("pass(2) with dust 2 and 4", x.pass(2), 348 + 341);
        Check.due("of(0, 3)", x.of(0, 3), 6);
        Check.due("of(0, 5)", x.of(0, 5), 360 + 348 + 341);
        Check.due("count(4)", x.count(4), 360 + 348 + 341);
        Check.due("count(0)", x.count(0), 3);
        Check.due("pass() is a change", x.count(12), 3);
        x.set(SunMirrors.DUST, 19);
        x.pass(4);
        Check.due("of(0, 3)", x.of(0, 3), 82);
        x.pass(1);
        Check.due("dust is 100 at most", x.of(0, 3), 100);
        Check.due("a mirror of dust alone brings nothing", x.pass(1), 0);
        Check.due("dust stays at 100", x.of(0, 3), 100);
        Check.due("dust 0 to 6 fits 100", x.wash(0), 100);
        x.wind(60);
        Check.due("flat: pass(3)", x.pass(3), 0);
        Check.due("flat: dust settles", x.of(0, 3), 57);
        Check.due("flat: count(0)", x.count(0), 12);
        Check.due("undo()", x.undo(), 5);
        Check.due("count(0)", x.count(0), 9);
        Check.due("of(0, 3)", x.of(0, 3), 0);
    }

    private static void promise8PassErrors() {
        SunMirrors x = new SunMirrors();
        int[] outside = {0, -1, 100, MIN, MAX};
        for (int wrong : outside) {
            Check.changesNothing("pass(" + wrong + ")", x, () -> x.pass(wrong), SunMirrors.BAD_VALUE);
        }
        for (int times = 0; times < 10; times++) {
            Check.due("pass(99)", x.pass(99), 0);
        }
        Check.due("990 days", x.count(0), 990);
        Check.changesNothing("pass(10)", x, () -> x.pass(10), SunMirrors.NOT_POSSIBLE);
        Check.due("pass(9)", x.pass(9), 0);
        Check.due("999 days", x.count(0), 999);
        Check.changesNothing("pass(1)", x, () -> x.pass(1), SunMirrors.NOT_POSSIBLE);
        Check.changesNothing("pass(99)", x, () -> x.pass(99), SunMirrors.NOT_POSSIBLE);
        Check.changesNothing("pass(100)", x, () -> x.pass(100), SunMirrors.BAD_VALUE);
        Check.changesNothing("pass(0)", x, () -> x.pass(0), SunMirrors.BAD_VALUE);
    }

    /** By LIMIT 50 the mirror in row 0 looks away at noon alone, where it gives 60. */
    private static void promise8PassUsedOnly() {
        SunMirrors x = new SunMirrors();
        x.mirror(0, 0, 0);
        x.mirror(10, 19, 1);
        x.set(SunMirrors.LIMIT, 50);
        Check.due("pass(1)", x.pass(1), 300 + 236);
        Check.due("of(0, 5)", x.of(0, 5), 300);
        Check.due("of(1, 5)", x.of(1, 5), 236);
        Check.due("dust of one that looks away", x.of(0, 3), 2);
    }
}
