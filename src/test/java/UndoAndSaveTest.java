import java.util.Arrays;

/** Promises 22 to 24: undo, saving. */
final class UndoAndSaveTest {
    private static final int MIN = Integer.MIN_VALUE;
    private static final int MAX = Integer.MAX_VALUE;

    public static void main(String[] args) {
        promise22Six();
        promise22EachChange();
        promise22NoChanges();
        promise22Failures();
        promise22Keeps();
        promise23Save();
        promise24Restore();
        promise24Undo();
        Check.end("UndoAndSaveTest");
    }

    private static void promise22Six() {
        SunMirrors x = new SunMirrors();
        Check.changesNothing("nothing to undo", x, () -> x.undo(), SunMirrors.NOT_POSSIBLE);
        for (int times = 1; times <= 20; times++) {
            x.wind(times);
            Check.due("count(12)", x.count(12), Math.min(times, 6));
        }
        for (int times = 1; times <= 6; times++) {
            Check.due("undo()", x.undo(), 6 - times);
            Check.due("count(2)", x.count(2), 20 - times);
            Check.due("count(12)", x.count(12), 6 - times);
        }
        Check.changesNothing("no more to undo", x, () -> x.undo(), SunMirrors.NOT_POSSIBLE);
        x.wind(77);
        x.wind(78);
        Check.due("undo()", x.undo(), 1);
        x.wind(79);
        Check.due("undo()", x.undo(), 1);
        Check.due("count(2)", x.count(2), 77);
        Check.due("undo()", x.undo(), 0);
        Check.due("count(2)", x.count(2), 14);
        Check.due("undo()", x.undo(), SunMirrors.NOT_POSSIBLE);
    }

    private static SunMirrors someField() {
        SunMirrors x = new SunMirrors();
        x.mirror(5, 10, 0);
        x.mirror(3, 10, 1);
        x.mirror(4, 11, 2);
        x.pass(4);
        x.save(1);
        x.set(SunMirrors.LIMIT, 300);
        return x;
    }

    /** Does the change of a number, and answers what it answers. */
    private static int change(SunMirrors x, int number) {
        switch (number) {
            case 0: return x.set(SunMirrors.WIND, 9);
            case 1: return x.mirror(12, 12, 3);
            case 2: return x.take(0);
            case 3: return x.aim(1, 2);
            case 4: return x.wash(2);
            case 5: return x.wind(80);
            case 6: return x.pass(3);
            case 7:
                Check.put(x, "w0;+7.7;t1;x0");
                return x.carryOut();
            default: return x.restore(1);
        }
    }

    private static void promise22EachChange() {
        for (int number = 0; number <= 8; number++) {
            SunMirrors x = someField();
            int[] before = Check.seen(x);
            Check.due("5 changes", x.count(12), 5);
            Check.holds("change " + number + " is one", change(x, number) >= 0);
            Check.due("6 changes", x.count(12), 6);
            Check.holds("change " + number + " changes", !Arrays.equals(before, Check.seen(x)));
            Check.due("undo() of change " + number, x.undo(), 5);
            Check.holds("change " + number + " is undone", Arrays.equals(before, Check.seen(x)));
        }
    }

    /** A change by which nothing is different is recorded too. */
    private static void promise22NoChanges() {
        SunMirrors x = new SunMirrors();
        x.mirror(1, 1, 1);
        x.set(SunMirrors.LIMIT, 400);
        x.aim(0, 1);
        x.wash(0);
        x.wind(0);
        Check.due("count(12)", x.count(12), 5);
        for (int times = 4; times >= 1; times--) {
            Check.due("undo()", x.undo(), times);
            Check.due("count(1)", x.count(1), 1);
        }
        Check.due("undo()", x.undo(), 0);
        Check.due("count(1)", x.count(1), 0);
    }

    private static void promise22Failures() {
        SunMirrors x = new SunMirrors();
        for (int times = 1; times <= 7; times++) {
            x.wind(times);
        }
        x.set(0, 0);
        x.mirror(20, 0, 0);
        x.take(0);
        x.aim(0, 0);
        x.wash(0);
        x.wind(100);
        x.pass(0);
        x.carryOut();
        x.restore(0);
        x.restore(2);
        x.save(2);
        x.count(5);
        x.toWash();
        x.bestColumn(0, 0, 0);
        Check.due("failures are not recorded", x.count(12), 6);
        for (int times = 6; times >= 1; times--) {
            x.undo();
            Check.due("count(2)", x.count(2), times);
        }
        Check.due("undo()", x.undo(), SunMirrors.NOT_POSSIBLE);
    }

    /** The pad and the slots are not undone. */
    private static void promise22Keeps() {
        SunMirrors x = new SunMirrors();
        x.mirror(1, 1, 1);
        Check.put(x, "x0;x1");
        Check.due("save(0)", x.save(0), 1);
        x.mirror(2, 2, 2);
        x.wipe();
        Check.put(x, "v7");
        Check.due("undo()", x.undo(), 1);
        Check.due("undo()", x.undo(), 0);
        Check.due("count(11)", x.count(11), 2);
        Check.due("restore(0)", x.restore(0), 1);
        Check.due("carryOut()", x.carryOut(), 1);
        Check.due("count(2)", x.count(2), 7);
    }

    private static void promise23Save() {
        SunMirrors x = new SunMirrors();
        Check.due("save(0) of none", x.save(0), 0);
        x.mirror(1, 1, 1);
        x.mirror(2, 2, 2);
        Check.due("save(1)", x.save(1), 2);
        Check.due("save is no change", x.count(12), 2);
        int[] none = {-1, 2, MIN, MAX};
        for (int wrong : none) {
            Check.changesNothing("save(" + wrong + ")", x, () -> x.save(wrong), SunMirrors.BAD_VALUE);
        }
        x.take(0);
        Check.due("save(1) over it", x.save(1), 1);
        x.mirror(9, 9, 0);
        Check.due("restore(1)", x.restore(1), 1);
        Check.due("of(0, 0)", x.of(0, 0), 2);
        Check.due("restore(0)", x.restore(0), 0);
        Check.due("count(1)", x.count(1), 0);
    }

    private static void promise24Restore() {
        SunMirrors x = someField();
        x.wind(33);
        x.set(SunMirrors.DUST, 3);
        Check.put(x, "x0");
        int[] before = Check.seen(x);
        Check.due("save(0)", x.save(0), 3);
        x.take(1);
        x.pass(9);
        x.set(SunMirrors.WIND, 1);
        x.set(SunMirrors.LIMIT, 77);
        x.aim(0, 3);
        x.wind(2);
        x.wash(0);
        int history = x.count(12);
        Check.due("a full history", history, 6);
        Check.due("restore(0)", x.restore(0), 3);
        Check.holds("all is back", Arrays.equals(before, Check.seen(x)));
        Check.due("the pad stays", x.count(11), 2);
        x.take(0);
        Check.due("the slot keeps it: restore(0)", x.restore(0), 3);
        Check.holds("all is back again", Arrays.equals(before, Check.seen(x)));
        int[] none = {-1, 2, MIN, MAX};
        for (int wrong : none) {
            Check.changesNothing("restore(" + wrong + ")", x, () -> x.restore(wrong), SunMirrors.BAD_VALUE);
        }
        SunMirrors y = new SunMirrors();
        y.save(1);
        Check.changesNothing("restore(0) of nothing", y, () -> y.restore(0), SunMirrors.NOT_POSSIBLE);
        Check.due("restore(1)", y.restore(1), 0);
        Check.due("restore() is a change", y.count(12), 1);
    }

    private static void promise24Undo() {
        SunMirrors x = new SunMirrors();
        x.mirror(1, 1, 1);
        x.save(0);
        x.mirror(2, 2, 2);
        x.wind(5);
        Check.due("restore(0)", x.restore(0), 1);
        Check.due("the history is not restored", x.count(12), 4);
        Check.due("undo()", x.undo(), 3);
        Check.due("count(1)", x.count(1), 2);
        Check.due("count(2)", x.count(2), 5);
        Check.due("restore(0)", x.restore(0), 1);
    }
}
