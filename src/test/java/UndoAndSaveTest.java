/** Promises 22 to 24: undo, saving. */
final class UndoAndSaveTest {
    private static final int NOT_POSSIBLE = SunMirrors.NOT_POSSIBLE;
    private static final int BAD_VALUE = SunMirrors.BAD_VALUE;
    private static final int[] NO_SLOTS = {-1, 2, 3, Check.MIN, Check.MAX};

    public static void main(String[] args) {
        sentences();
        Check.end("UndoAndSaveTest");
    }

    static void sentences() {
        promise22Six();
        promise22Records();
        promise22Except();
        promise23Save();
        promise24Restore();
        promise24Change();
    }

    private static void promise22Six() {
        Check.sentence("22: NOT_POSSIBLE if there is none", () -> {
            Recorded x = new Recorded();
            Check.changesNothing("at first", x, () -> x.undo(), NOT_POSSIBLE);
            x.wind(5);
            x.undo();
            Check.changesNothing("when all is undone", x, () -> x.undo(), NOT_POSSIBLE);
            x.wind(6);
            Check.due("undo()", x.undo(), 0);
            Check.due("undo()", x.undo(), NOT_POSSIBLE);
        });
        Check.sentence("22: returns how many changes can be undone then", () -> {
            for (int changes = 1; changes <= 9; changes++) {
                Recorded x = new Recorded();
                for (int times = 1; times <= changes; times++) {
                    x.wind(times);
                }
                for (int left = Math.min(changes, 6) - 1; left >= 0; left--) {
                    Check.due(changes + " changes: undo()", x.undo(), left);
                    Check.due(changes + " changes: count(12)", x.count(12), left);
                }
                Check.due(changes + " changes: undo()", x.undo(), NOT_POSSIBLE);
            }
        });
        Check.sentence("22: undoes the latest change", () -> {
            Recorded x = new Recorded();
            x.wind(1);
            x.wind(2);
            x.wind(3);
            x.undo();
            Check.due("count(2)", x.count(2), 2);
            x.wind(4);
            x.undo();
            Check.due("count(2)", x.count(2), 2);
            x.undo();
            Check.due("count(2)", x.count(2), 1);
            x.undo();
            Check.due("count(2)", x.count(2), 0);
        });
        Check.sentence("22: at most 6 states are kept; the oldest one is dropped", () -> {
            for (int changes = 6; changes <= 30; changes++) {
                Recorded x = new Recorded();
                for (int times = 1; times <= changes; times++) {
                    x.wind(times);
                }
                Check.due("count(12)", x.count(12), 6);
                for (int times = 1; times <= 6; times++) {
                    x.undo();
                    Check.due(changes + " changes, " + times + " undone: count(2)", x.count(2), changes - times);
                }
                Check.due("undo()", x.undo(), NOT_POSSIBLE);
                Check.due("the one before stays", x.count(2), changes - 6);
            }
        });
        Check.sentence("22: after an undo one more may be recorded", () -> {
            Recorded x = new Recorded();
            for (int times = 1; times <= 8; times++) {
                x.wind(times);
            }
            x.undo();
            x.undo();
            Check.due("count(12)", x.count(12), 4);
            x.wind(50);
            Check.due("count(12)", x.count(12), 5);
            x.wind(51);
            x.wind(52);
            Check.due("count(12)", x.count(12), 6);
            int[] winds = {51, 50, 6, 5, 4, 3};
            for (int wind : winds) {
                x.undo();
                Check.due("count(2)", x.count(2), wind);
            }
            Check.due("undo()", x.undo(), NOT_POSSIBLE);
        });
        Check.sentence("22: undo() is no change", () -> {
            Recorded x = new Recorded();
            x.wind(1);
            x.wind(2);
            Check.due("undo()", x.undo(), 1);
            Check.due("undo()", x.undo(), 0);
            Check.due("it is not undone itself", x.count(2), 0);
        });
    }

    private static Recorded someField() {
        Recorded x = Recorded.with(new int[][] {{5, 10, 0}, {3, 10, 1}, {4, 11, 2}});
        x.pass(4);
        x.save(1);
        x.set(SunMirrors.LIMIT, 300);
        return x;
    }

    /** Does the change of a number, and answers what it answers. */
    private static int change(Recorded x, int number) {
        switch (number) {
            case 0: return x.set(SunMirrors.WIND, 9);
            case 1: return x.mirror(12, 12, 3);
            case 2: return x.take(0);
            case 3: return x.aim(1, 2);
            case 4: return x.wash(2);
            case 5: return x.wind(80);
            case 6: return x.pass(3);
            case 7: return Check.carryOut(x, "w0;+7.7;t1;x0");
            default: return x.restore(1);
        }
    }

    private static void promise22Records() {
        Check.sentence("22: each method that is a change records the state before it", () -> {
            for (int number = 0; number <= 8; number++) {
                Recorded x = someField();
                int[] before = x.field();
                Check.holds("change " + number + " returns no error", change(x, number) >= 0);
                Check.due("change " + number + ": count(12)", x.count(12), 6);
                Check.holds("change " + number + " changes something", !x.isLike(before));
                Check.due("change " + number + ": undo()", x.undo(), 5);
                Check.holds("change " + number + " is undone", x.isLike(before));
            }
        });
        Check.sentence("22: ... also if nothing is different then", () -> {
            Recorded x = Recorded.with(new int[][] {{1, 1, 1}});
            x.save(0);
            x.set(SunMirrors.LIMIT, 400);
            Check.due("set()", x.count(12), 2);
            x.aim(0, 1);
            Check.due("aim()", x.count(12), 3);
            x.wash(0);
            Check.due("wash()", x.count(12), 4);
            x.wind(0);
            Check.due("wind()", x.count(12), 5);
            x.restore(0);
            Check.due("restore()", x.count(12), 6);
            for (int left = 5; left >= 1; left--) {
                Check.due("undo()", x.undo(), left);
                Check.due("count(1)", x.count(1), 1);
            }
            Check.carryOut(x, "x1");
            Check.due("carryOut()", x.count(12), 2);
            x.undo();
            Check.due("undo()", x.undo(), 0);
            Check.due("count(1)", x.count(1), 0);
        });
        Check.sentence("22: ... and returns no error", () -> {
            Recorded x = new Recorded();
            for (int times = 1; times <= 7; times++) {
                x.wind(times);
            }
            x.set(0, 0);
            x.mirror(20, 0, 0);
            x.take(0);
            x.aim(0, 0);
            x.wash(0);
            x.wind(100);
            x.pass(0);
            x.carryOut();
            x.restore(0);
            x.restore(2);
            Check.due("count(12)", x.count(12), 6);
            for (int wind = 6; wind >= 1; wind--) {
                x.undo();
                Check.due("count(2)", x.count(2), wind);
            }
            Check.due("undo()", x.undo(), NOT_POSSIBLE);
        });
        Check.sentence("22: what is no change records nothing", () -> {
            Recorded x = Recorded.with(new int[][] {{1, 1, 1}});
            x.of(0, 0);
            x.at(0, 0, 0);
            x.point(0, 0, 0);
            x.count(5);
            x.in(0, 0);
            x.worthLeast(0);
            x.bestColumn(0, 0, 0);
            x.toWash();
            x.leastLimit();
            Check.put(x, "x0");
            x.fault();
            x.wipe();
            x.save(0);
            Check.due("count(12)", x.count(12), 1);
        });
        Check.sentence("22: an order of a text records nothing by itself", () -> {
            Recorded x = new Recorded();
            x.wind(3);
            Check.due("carryOut()", Check.carryOut(x, "+1.1;+2.2;+3.3;+4.4;+5.5;+6.6;+7.7;+8.8;v9;t3"), 10);
            Check.due("count(12)", x.count(12), 2);
            Check.due("undo()", x.undo(), 1);
            Check.due("count(1)", x.count(1), 0);
            Check.due("count(2)", x.count(2), 3);
            Check.due("count(0)", x.count(0), 0);
        });
    }

    private static void promise22Except() {
        Check.sentence("22: everything is as it was before it", () -> {
            Recorded x = someField();
            x.wind(33);
            int[] before = x.field();
            Check.carryOut(x, "x1;+9.9a3;t5;w0;a0>3;v77;x0");
            x.set(SunMirrors.LIMIT, 1);
            x.set(SunMirrors.WIND, 1);
            x.set(SunMirrors.DUST, 20);
            x.take(0);
            x.pass(99);
            for (int times = 0; times < 6; times++) {
                x.undo();
            }
            Check.holds("all is back", x.isLike(before));
        });
        Check.sentence("22: ... except the pad", () -> {
            Recorded x = Recorded.with(new int[][] {{1, 1, 1}});
            Check.put(x, "x0;x1");
            x.mirror(2, 2, 2);
            x.wipe();
            Check.put(x, "v7");
            Check.due("undo()", x.undo(), 1);
            Check.due("count(11)", x.count(11), 2);
            Check.due("carryOut()", x.carryOut(), 1);
            Check.due("count(2)", x.count(2), 7);
            Check.due("undo()", x.undo(), 1);
            Check.due("a text that was carried out is not back", x.count(11), 0);
        });
        Check.sentence("22: ... except the slots", () -> {
            Recorded x = Recorded.with(new int[][] {{1, 1, 1}});
            x.save(0);
            x.mirror(2, 2, 2);
            x.save(0);
            x.save(1);
            x.undo();
            x.undo();
            Check.due("count(1)", x.count(1), 0);
            Check.due("restore(0)", x.restore(0), 2);
            Check.due("restore(1)", x.restore(1), 2);
        });
        Check.sentence("22: ... except the history", () -> {
            Recorded x = new Recorded();
            for (int times = 1; times <= 6; times++) {
                x.wind(times);
            }
            x.save(0);
            x.restore(0);
            Check.due("undo() of restore()", x.undo(), 5);
            Check.due("undo()", x.undo(), 4);
            Check.due("count(2)", x.count(2), 5);
        });
    }

    private static void promise23Save() {
        Check.sentence("23: slot: 0 or 1; BAD_VALUE if there is no such slot", () -> {
            Recorded x = Recorded.with(new int[][] {{1, 1, 1}});
            for (int wrong : NO_SLOTS) {
                Check.changesNothing("save(" + wrong + ")", x, () -> x.save(wrong), BAD_VALUE);
            }
            Check.due("restore(0)", x.restore(0), NOT_POSSIBLE);
            Check.due("restore(1)", x.restore(1), NOT_POSSIBLE);
            Check.due("save(0)", x.save(0), 1);
            Check.due("save(1)", x.save(1), 1);
        });
        Check.sentence("23: returns how many mirrors there are", () -> {
            Check.due("none", new Recorded().save(0), 0);
            Check.due("none", new Recorded().save(1), 0);
            Recorded x = Recorded.full();
            Check.due("24", x.save(0), 24);
            x.take(0);
            Check.due("23", x.save(0), 23);
        });
        Check.sentence("23: saves everything", () -> {
            Recorded x = someField();
            x.wind(33);
            x.set(SunMirrors.DUST, 3);
            x.set(SunMirrors.WIND, 32);
            int[] before = x.field();
            x.save(0);
            Check.carryOut(x, "x1;+9.9a3;t5;w0;a0>3;v77;x0");
            x.set(SunMirrors.LIMIT, 1);
            x.set(SunMirrors.WIND, 1);
            x.set(SunMirrors.DUST, 20);
            x.pass(99);
            Check.due("restore(0)", x.restore(0), 3);
            Check.holds("all is back", x.isLike(before));
        });
        Check.sentence("23: ... except the pad", () -> {
            Recorded x = new Recorded();
            Check.put(x, "v1");
            x.save(0);
            Check.put(x, ";v2");
            x.restore(0);
            Check.due("count(11)", x.count(11), 5);
            Check.due("carryOut()", x.carryOut(), 2);
        });
        Check.sentence("23: ... except the history", () -> {
            Recorded x = new Recorded();
            x.wind(1);
            x.save(0);
            x.wind(2);
            x.wind(3);
            x.restore(0);
            Check.due("count(12)", x.count(12), 4);
            x.undo();
            Check.due("count(2)", x.count(2), 3);
            x.undo();
            Check.due("count(2)", x.count(2), 2);
        });
        Check.sentence("23: ... except the slots", () -> {
            Recorded x = new Recorded();
            x.wind(1);
            x.save(0);
            x.wind(2);
            x.save(1);
            x.wind(3);
            x.save(0);
            x.restore(1);
            Check.due("count(2)", x.count(2), 2);
            x.restore(0);
            Check.due("what was saved last", x.count(2), 3);
        });
        Check.sentence("23: overwrites what was saved there", () -> {
            Recorded x = Recorded.full();
            x.save(1);
            x.save(0);
            x.take(0);
            x.take(0);
            Check.due("save(1)", x.save(1), 22);
            x.mirror(9, 9, 0);
            Check.due("restore(1)", x.restore(1), 22);
            Check.due("of(0, 1)", x.of(0, 1), 2);
            Check.due("the other one is as it was", x.restore(0), 24);
        });
        Check.sentence("23: save() is no change", () -> {
            Recorded x = Recorded.with(new int[][] {{1, 1, 1}});
            int[] before = x.field();
            x.save(0);
            x.save(1);
            Check.due("count(12)", x.count(12), 1);
            Check.holds("all is as it was", x.isLike(before));
        });
    }

    private static void promise24Restore() {
        Check.sentence("24: slot: 0 or 1; BAD_VALUE if there is no such slot", () -> {
            Recorded x = Recorded.with(new int[][] {{1, 1, 1}});
            x.save(0);
            x.save(1);
            x.take(0);
            for (int wrong : NO_SLOTS) {
                Check.changesNothing("restore(" + wrong + ")", x, () -> x.restore(wrong), BAD_VALUE);
            }
            Check.due("restore(0)", x.restore(0), 1);
            Check.due("restore(1)", x.restore(1), 1);
        });
        Check.sentence("24: NOT_POSSIBLE if nothing was saved in it", () -> {
            Recorded x = Recorded.with(new int[][] {{1, 1, 1}});
            Check.changesNothing("restore(0)", x, () -> x.restore(0), NOT_POSSIBLE);
            Check.changesNothing("restore(1)", x, () -> x.restore(1), NOT_POSSIBLE);
            x.save(1);
            Check.changesNothing("only in slot 1: restore(0)", x, () -> x.restore(0), NOT_POSSIBLE);
            Check.due("only in slot 1: restore(1)", x.restore(1), 1);
            Recorded y = Recorded.with(new int[][] {{1, 1, 1}});
            y.save(0);
            Check.changesNothing("only in slot 0: restore(1)", y, () -> y.restore(1), NOT_POSSIBLE);
            Check.due("only in slot 0: restore(0)", y.restore(0), 1);
        });
        Check.sentence("24: BAD_VALUE before NOT_POSSIBLE", () -> {
            Recorded x = new Recorded();
            Check.due("restore(2)", x.restore(2), BAD_VALUE);
            Check.due("restore(-1)", x.restore(-1), BAD_VALUE);
        });
        Check.sentence("24: restores what was saved last in a slot", () -> {
            Recorded x = someField();
            x.wind(40);
            int[] before = x.field();
            x.save(0);
            x.take(1);
            x.pass(9);
            x.set(SunMirrors.WIND, 1);
            x.set(SunMirrors.LIMIT, 77);
            x.aim(0, 3);
            x.wind(2);
            x.wash(0);
            Check.due("restore(0)", x.restore(0), 3);
            Check.holds("all is back", x.isLike(before));
            Check.due("restore(1)", x.restore(1), 3);
            Check.due("of slot 1", x.count(2), 0);
        });
        Check.sentence("24: the slot keeps it", () -> {
            Recorded x = someField();
            int[] before = x.field();
            x.save(0);
            for (int times = 0; times < 3; times++) {
                x.take(0);
                x.wind(99);
                x.pass(3);
                Check.due("restore(0)", x.restore(0), 3);
                Check.holds("all is back", x.isLike(before));
            }
        });
        Check.sentence("24: what was saved without mirrors is saved, too", () -> {
            Recorded x = new Recorded();
            x.save(0);
            x.mirror(1, 1, 1);
            Check.due("restore(0)", x.restore(0), 0);
            Check.due("count(1)", x.count(1), 0);
        });
        Check.sentence("24: returns how many mirrors there are then", () -> {
            Recorded x = Recorded.full();
            x.save(0);
            x.take(5);
            x.save(1);
            x.take(5);
            Check.due("restore(0)", x.restore(0), 24);
            Check.due("count(1)", x.count(1), 24);
            Check.due("restore(1)", x.restore(1), 23);
            Check.due("count(1)", x.count(1), 23);
        });
    }

    private static void promise24Change() {
        Check.sentence("24: this is a change", () -> {
            Recorded x = Recorded.with(new int[][] {{1, 1, 1}});
            x.save(0);
            x.mirror(2, 2, 2);
            x.wind(5);
            Check.isChange("restore(0)", x, () -> x.restore(0), 1);
            Check.isChange("restore(0) again", x, () -> x.restore(0), 1);
            x.undo();
            x.undo();
            Check.due("count(1)", x.count(1), 2);
            Check.due("count(2)", x.count(2), 5);
        });
        Check.sentence("24: restores days, so that more may pass", () -> {
            Recorded x = new Recorded();
            x.save(1);
            for (int times = 0; times < 11; times++) {
                x.pass(times == 0 ? 9 : 99);
            }
            Check.due("pass(1)", x.pass(1), NOT_POSSIBLE);
            x.restore(1);
            Check.due("count(0)", x.count(0), 0);
            Check.due("pass(99)", x.pass(99), 0);
        });
        Check.sentence("24: the pad and the other slot stay", () -> {
            Recorded x = Recorded.with(new int[][] {{1, 1, 1}});
            x.save(0);
            x.mirror(2, 2, 2);
            x.save(1);
            Check.put(x, "v7");
            x.restore(0);
            Check.due("count(11)", x.count(11), 2);
            Check.due("restore(1)", x.restore(1), 2);
            Check.due("carryOut()", x.carryOut(), 1);
        });
    }
}
