/** Promises 1 to 8: a new object, and the changes. */
final class ChangesTest {
    private static final int MIN = Check.MIN;
    private static final int MAX = Check.MAX;
    private static final int BAD_VALUE = SunMirrors.BAD_VALUE;
    private static final int NO_SUCH = SunMirrors.NO_SUCH;
    private static final int LIMIT = SunMirrors.LIMIT;
    private static final int WIND = SunMirrors.WIND;
    private static final int DUST = SunMirrors.DUST;

    public static void main(String[] args) {
        sentences();
        Check.end("ChangesTest");
    }

    static void sentences() {
        promise1NewObject();
        promise2Set();
        promise2Settings();
        promise3Arguments();
        promise3Mirror();
        promise4Take();
        promise5Aim();
        promise6Wash();
        promise7Wind();
        promise8Pass();
        promise8Brings();
    }

    private static void promise1NewObject() {
        Check.sentence("1: creates an empty field", () -> {
            Recorded x = new Recorded();
            for (int place = 0; place < 400; place++) {
                Check.due("in(" + place / 20 + ", " + place % 20 + ")", x.in(place / 20, place % 20), SunMirrors.NONE);
            }
            for (int what : new int[] {0, 1, 4, 5, 6, 7}) {
                Check.due("count(" + what + ")", x.count(what), 0);
            }
            Check.due("of(0, 0)", x.of(0, 0), NO_SUCH);
            Check.due("take(0)", x.take(0), NO_SUCH);
        });
        Check.sentence("1: creates an empty field: no point has anything", () -> {
            Recorded x = new Recorded();
            for (int number = 0; number < 44; number++) {
                for (int what = 0; what <= 2; what++) {
                    Check.due("point(" + number / 11 + ", " + number % 11 + ", " + what + ")",
                        x.point(number / 11, number % 11, what), 0);
                }
            }
        });
        Check.sentence("1: without wind", () -> {
            Check.due("count(2)", new Recorded().count(2), 0);
            Check.due("count(3)", new Recorded().count(3), 0);
        });
        Check.sentence("1: the settings have their first values", () -> {
            Recorded x = new Recorded();
            Check.due("LIMIT", x.count(8), 400);
            Check.due("WIND", x.count(9), 50);
            Check.due("DUST", x.count(10), 2);
        });
        Check.sentence("1: the pad is empty", () -> {
            Recorded x = new Recorded();
            Check.due("count(11)", x.count(11), 0);
            Check.due("fault()", x.fault(), 0);
            Check.due("carryOut()", x.carryOut(), SunMirrors.BAD_TEXT);
            Check.due("wipe()", x.wipe(), 0);
        });
        Check.sentence("1: nothing can be undone", () -> {
            Recorded x = new Recorded();
            Check.due("count(12)", x.count(12), 0);
            Check.changesNothing("undo()", x, () -> x.undo(), SunMirrors.NOT_POSSIBLE);
        });
        Check.sentence("1: nothing is saved", () -> {
            Recorded x = new Recorded();
            Check.changesNothing("restore(0)", x, () -> x.restore(0), SunMirrors.NOT_POSSIBLE);
            Check.changesNothing("restore(1)", x, () -> x.restore(1), SunMirrors.NOT_POSSIBLE);
        });
        Check.sentence("1: each new object is one of its own", () -> {
            Recorded x = new Recorded();
            Recorded y = new Recorded();
            y.mirror(1, 1, 0);
            y.set(LIMIT, 7);
            y.save(0);
            Check.put(y, "x0");
            Check.due("mirrors", x.count(1), 0);
            Check.due("LIMIT", x.count(8), 400);
            Check.due("pad", x.count(11), 0);
            Check.due("history", x.count(12), 0);
            Check.due("slot", x.restore(0), SunMirrors.NOT_POSSIBLE);
            Check.due("a third one", new Recorded().count(1), 0);
        });
    }

    private static void range(Recorded x, int setting, int least, int most) {
        x.set(setting, least + 1);
        Check.due("the least", x.set(setting, least), least + 1);
        Check.due("the most", x.set(setting, most), least);
        for (int wrong : new int[] {least - 1, most + 1, -1, MIN, MAX}) {
            Check.changesNothing("set(" + setting + ", " + wrong + ")", x, () -> x.set(setting, wrong), BAD_VALUE);
        }
        Check.due("it stands", x.count(8 + setting), most);
    }

    private static void promise2Set() {
        Check.sentence("2: LIMIT (1 to 9999)", () -> range(new Recorded(), LIMIT, 1, 9999));
        Check.sentence("2: WIND (1 to 99)", () -> range(new Recorded(), WIND, 1, 99));
        Check.sentence("2: DUST (0 to 20)", () -> range(new Recorded(), DUST, 0, 20));
        Check.sentence("2: BAD_VALUE if there is no such setting", () -> {
            Recorded x = new Recorded();
            for (int wrong : new int[] {-1, 3, 4, 8, MIN, MAX}) {
                Check.changesNothing("set(" + wrong + ", 5)", x, () -> x.set(wrong, 5), BAD_VALUE);
            }
        });
        Check.sentence("2: returns the previous value", () -> {
            Recorded x = new Recorded();
            Check.due("the first LIMIT", x.set(LIMIT, 77), 400);
            Check.due("the first WIND", x.set(WIND, 88), 50);
            Check.due("the first DUST", x.set(DUST, 0), 2);
            Check.due("LIMIT", x.set(LIMIT, 77), 77);
            Check.due("LIMIT again", x.set(LIMIT, 9), 77);
            Check.due("WIND", x.set(WIND, 9), 88);
            Check.due("DUST", x.set(DUST, 9), 0);
        });
        Check.sentence("2: changes this setting, and no other", () -> {
            Recorded x = new Recorded();
            x.set(LIMIT, 11);
            x.set(WIND, 12);
            x.set(DUST, 13);
            Check.due("count(8)", x.count(8), 11);
            Check.due("count(9)", x.count(9), 12);
            Check.due("count(10)", x.count(10), 13);
        });
        Check.sentence("2: this is a change", () -> {
            Recorded x = Recorded.with(new int[][] {{0, 0, 0}});
            Check.isChange("set(LIMIT, 30)", x, () -> x.set(LIMIT, 30), 400);
            Check.isChange("set(WIND, 30)", x, () -> x.set(WIND, 30), 50);
            Check.isChange("set(DUST, 0)", x, () -> x.set(DUST, 0), 2);
            Check.isChange("set(DUST, 0) again", x, () -> x.set(DUST, 0), 0);
        });
    }

    private static void promise2Settings() {
        Check.sentence("2: LIMIT: what an aim point can bear", () -> {
            Recorded x = Recorded.with(new int[][] {{0, 0, 0}});
            x.set(LIMIT, 59);
            Check.due("60 by LIMIT 59", x.at(0, 5, 2), 0);
            x.set(LIMIT, 60);
            Check.due("60 by LIMIT 60", x.at(0, 5, 2), 1);
            Recorded y = new Recorded();
            for (int column = 0; column < 7; column++) {
                y.mirror(0, column, 0);
            }
            Check.due("6 * 60 by the first LIMIT", y.point(0, 5, 0), 360);
        });
        Check.sentence("2: WIND: wind above which mirrors lie flat", () -> {
            Recorded x = Recorded.with(new int[][] {{0, 0, 0}});
            x.wind(30);
            x.set(WIND, 31);
            Check.due("wind 30 by WIND 31", x.count(3), 0);
            x.set(WIND, 30);
            Check.due("wind 30 by WIND 30", x.count(3), 0);
            x.set(WIND, 29);
            Check.due("wind 30 by WIND 29", x.count(3), 1);
            Check.due("wind 30 by WIND 29", x.at(0, 5, 1), 0);
        });
        Check.sentence("2: DUST: hundredths that a mirror loses by a day", () -> {
            Recorded x = Recorded.with(new int[][] {{0, 0, 0}});
            x.pass(1);
            Check.due("by the first DUST", x.of(0, 3), 2);
            x.set(DUST, 0);
            x.pass(7);
            Check.due("by DUST 0", x.of(0, 3), 2);
            x.set(DUST, 7);
            x.pass(7);
            Check.due("by DUST 7", x.of(0, 3), 51);
            Check.due("49 * 6 / 10", x.at(0, 5, 1), 29);
        });
    }

    private static void promise3Arguments() {
        Check.sentence("3: row: 0 to 19", () -> {
            Recorded x = new Recorded();
            Check.due("mirror(0, 5, 0)", x.mirror(0, 5, 0), 0);
            Check.due("mirror(19, 5, 0)", x.mirror(19, 5, 0), 1);
            Check.due("in(0, 5)", x.in(0, 5), 0);
            Check.due("in(19, 5)", x.in(19, 5), 1);
            for (int wrong : new int[] {-1, -2, 20, MIN, MAX}) {
                Check.changesNothing("mirror(" + wrong + ", 5, 0)", x, () -> x.mirror(wrong, 5, 0), BAD_VALUE);
            }
        });
        Check.sentence("3: column: 0 to 19", () -> {
            Recorded x = new Recorded();
            Check.due("mirror(5, 0, 0)", x.mirror(5, 0, 0), 0);
            Check.due("mirror(5, 19, 0)", x.mirror(5, 19, 0), 1);
            Check.due("in(5, 0)", x.in(5, 0), 0);
            Check.due("in(5, 19)", x.in(5, 19), 1);
            for (int wrong : new int[] {-1, -2, 20, MIN, MAX}) {
                Check.changesNothing("mirror(5, " + wrong + ", 0)", x, () -> x.mirror(5, wrong, 0), BAD_VALUE);
            }
        });
        Check.sentence("3: aim: 0 to 3", () -> {
            Recorded x = new Recorded();
            Check.due("mirror(5, 0, 0)", x.mirror(5, 0, 0), 0);
            Check.due("mirror(5, 1, 3)", x.mirror(5, 1, 3), 1);
            Check.due("of(0, 2)", x.of(0, 2), 0);
            Check.due("of(1, 2)", x.of(1, 2), 3);
            for (int wrong : new int[] {-1, 4, MIN, MAX}) {
                Check.changesNothing("mirror(5, 5, " + wrong + ")", x, () -> x.mirror(5, 5, wrong), BAD_VALUE);
            }
        });
        Check.sentence("3: BAD_VALUE before NOT_POSSIBLE before TOO_MANY", () -> {
            Recorded x = Recorded.full();
            Check.due("taken, no aim point", x.mirror(0, 0, 4), BAD_VALUE);
            Check.due("free, no aim point", x.mirror(5, 5, -1), BAD_VALUE);
            Check.due("no place", x.mirror(20, 0, 0), BAD_VALUE);
            Check.due("taken", x.mirror(0, 0, 0), SunMirrors.NOT_POSSIBLE);
            Check.due("free", x.mirror(5, 5, 0), SunMirrors.TOO_MANY);
        });
    }

    private static void promise3Mirror() {
        Check.sentence("3: returns its number", () -> {
            Recorded x = new Recorded();
            for (int number = 0; number < 24; number++) {
                Check.due("mirror " + number, x.mirror(number % 20, number / 20, 0), number);
            }
            x.take(5);
            Check.due("the last after take()", x.mirror(10, 10, 0), 23);
            Check.due("in(10, 10)", x.in(10, 10), 23);
        });
        Check.sentence("3: a mirror comes, without dust, and has brought nothing", () -> {
            Recorded x = Recorded.with(new int[][] {{0, 0, 0}, {3, 3, 0}});
            x.pass(3);
            x.take(1);
            Check.due("mirror(7, 8, 2)", x.mirror(7, 8, 2), 1);
            int[] facts = {7, 8, 2, 0, 0, 0};
            for (int what = 0; what <= 5; what++) {
                Check.due("of(1, " + what + ")", x.of(1, what), facts[what]);
            }
            Check.due("count(1)", x.count(1), 2);
            Check.due("the first one's dust", x.of(0, 3), 6);
        });
        Check.sentence("3: NOT_POSSIBLE if there is one in this place", () -> {
            Recorded x = Recorded.with(new int[][] {{0, 0, 0}, {19, 19, 1}, {7, 8, 2}});
            Check.changesNothing("mirror(0, 0, 0)", x, () -> x.mirror(0, 0, 0), SunMirrors.NOT_POSSIBLE);
            Check.changesNothing("mirror(19, 19, 3)", x, () -> x.mirror(19, 19, 3), SunMirrors.NOT_POSSIBLE);
            Check.due("row and column the other way round", x.mirror(8, 7, 2), 3);
            x.take(0);
            Check.due("free again", x.mirror(0, 0, 0), 3);
            Check.due("moved up, but there", x.mirror(7, 8, 0), SunMirrors.NOT_POSSIBLE);
        });
        Check.sentence("3: TOO_MANY if there are 24 mirrors", () -> {
            Recorded x = Recorded.full();
            Check.changesNothing("the 25th", x, () -> x.mirror(10, 10, 0), SunMirrors.TOO_MANY);
            Check.due("take(0)", x.take(0), 23);
            Check.due("the 24th", x.mirror(10, 10, 0), 23);
            Check.due("the 25th", x.mirror(11, 11, 0), SunMirrors.TOO_MANY);
        });
        Check.sentence("3: this is a change", () -> {
            Recorded x = new Recorded();
            Check.isChange("the first", x, () -> x.mirror(5, 5, 0), 0);
            Check.isChange("the second", x, () -> x.mirror(4, 5, 1), 1);
            Recorded full = Recorded.full();
            full.take(3);
            Check.isChange("the 24th", full, () -> full.mirror(6, 6, 3), 23);
        });
    }

    private static void promise4Take() {
        Check.sentence("4: returns how many are left", () -> {
            Recorded x = Recorded.full();
            for (int left = 23; left >= 0; left--) {
                Check.due("take", x.take(left % 3 == 0 ? left : 0), left);
                Check.due("count(1)", x.count(1), left);
            }
        });
        Check.sentence("4: NO_SUCH if there is no such mirror", () -> {
            Recorded x = Recorded.with(new int[][] {{0, 1, 1}, {5, 2, 2}});
            for (int wrong : new int[] {-1, 2, 3, 23, 24, 32, MIN, MAX}) {
                Check.changesNothing("take(" + wrong + ")", x, () -> x.take(wrong), NO_SUCH);
            }
            x.take(1);
            Check.changesNothing("take(1) again", x, () -> x.take(1), NO_SUCH);
            x.take(0);
            Check.changesNothing("take(0) of none", x, () -> x.take(0), NO_SUCH);
            Recorded full = Recorded.full();
            Check.changesNothing("take(24) of 24", full, () -> full.take(24), NO_SUCH);
        });
        Check.sentence("4: a mirror is taken away, and takes what is its own with it", () -> {
            Recorded x = Recorded.with(new int[][] {{0, 1, 1}});
            x.pass(3);
            x.mirror(5, 2, 2);
            x.pass(2);
            x.mirror(10, 3, 3);
            int brought = x.of(1, 5);
            int all = x.count(4);
            Check.holds("something was brought", brought > 0 && all > brought);
            x.take(0);
            int[][] facts = {{5, 2, 2, 4, 0, brought}, {10, 3, 3, 0, 0, 0}};
            for (int mirror = 0; mirror < 2; mirror++) {
                for (int what = 0; what <= 5; what++) {
                    Check.due("of(" + mirror + ", " + what + ")", x.of(mirror, what), facts[mirror][what]);
                }
            }
            Check.due("in(0, 1)", x.in(0, 1), SunMirrors.NONE);
            Check.due("all days brought the same", x.count(4), all);
            Check.due("its dust is gone", x.count(7), 4);
        });
        Check.sentence("4: take() of the last one", () -> {
            Recorded x = Recorded.full();
            Check.due("take(23)", x.take(23), 23);
            Check.due("in(19, 3)", x.in(19, 3), SunMirrors.NONE);
            Check.due("in(19, 2)", x.in(19, 2), 22);
            Check.due("of(23, 0)", x.of(23, 0), NO_SUCH);
        });
        Check.sentence("4: this is a change", () -> {
            Recorded x = Recorded.with(new int[][] {{0, 1, 1}, {5, 2, 2}, {7, 7, 3}});
            x.pass(4);
            Check.isChange("take(1)", x, () -> x.take(1), 2);
            Check.isChange("take(1)", x, () -> x.take(1), 1);
            Check.isChange("take(0)", x, () -> x.take(0), 0);
        });
    }

    private static void promise5Aim() {
        Check.sentence("5: aim: 0 to 3", () -> {
            Recorded x = Recorded.with(new int[][] {{0, 0, 1}});
            Check.due("aim(0, 0)", x.aim(0, 0), 1);
            Check.due("aim(0, 3)", x.aim(0, 3), 0);
            for (int wrong : new int[] {-1, 4, MIN, MAX}) {
                Check.changesNothing("aim(0, " + wrong + ")", x, () -> x.aim(0, wrong), BAD_VALUE);
            }
        });
        Check.sentence("5: NO_SUCH if there is no such mirror", () -> {
            Recorded x = Recorded.with(new int[][] {{0, 0, 2}, {0, 5, 1}});
            for (int wrong : new int[] {-1, 2, 23, 24, 25, 32, MIN, MAX}) {
                Check.changesNothing("aim(" + wrong + ", 0)", x, () -> x.aim(wrong, 0), NO_SUCH);
            }
            Check.due("without mirrors", new Recorded().aim(0, 0), NO_SUCH);
            Check.due("of 24", Recorded.full().aim(24, 0), NO_SUCH);
            Check.due("the last of 24", Recorded.full().aim(23, 0), 3);
        });
        Check.sentence("5: NO_SUCH before BAD_VALUE", () -> {
            Recorded x = Recorded.with(new int[][] {{0, 0, 2}});
            Check.due("aim(1, 4)", x.aim(1, 4), NO_SUCH);
            Check.due("aim(-1, -1)", x.aim(-1, -1), NO_SUCH);
            Check.due("aim(0, -1)", x.aim(0, -1), BAD_VALUE);
        });
        Check.sentence("5: returns the previous one", () -> {
            Recorded x = Recorded.with(new int[][] {{0, 0, 2}, {0, 5, 1}});
            Check.due("aim(0, 3)", x.aim(0, 3), 2);
            Check.due("aim(0, 3)", x.aim(0, 3), 3);
            Check.due("aim(0, 0)", x.aim(0, 0), 3);
            Check.due("aim(1, 1)", x.aim(1, 1), 1);
        });
        Check.sentence("5: changes the aim point of a mirror", () -> {
            Recorded x = Recorded.with(new int[][] {{0, 0, 2}, {0, 5, 2}});
            x.aim(1, 0);
            Check.due("of(0, 2)", x.of(0, 2), 2);
            Check.due("of(1, 2)", x.of(1, 2), 0);
            Check.due("point(2, 5, 0)", x.point(2, 5, 0), 60);
            Check.due("point(0, 5, 1)", x.point(0, 5, 1), 2);
        });
        Check.sentence("5: this is a change", () -> {
            Recorded x = Recorded.with(new int[][] {{0, 0, 2}, {0, 5, 1}});
            Check.isChange("aim(1, 3)", x, () -> x.aim(1, 3), 1);
            Check.isChange("aim(1, 3) again", x, () -> x.aim(1, 3), 3);
        });
    }

    private static void promise6Wash() {
        Check.sentence("6: returns the dust that it had", () -> {
            Recorded x = Recorded.with(new int[][] {{0, 0, 0}, {0, 5, 0}});
            Check.due("of a clean one", x.wash(0), 0);
            x.pass(4);
            Check.due("of one with dust", x.wash(0), 8);
            Check.due("again", x.wash(0), 0);
            x.pass(99);
            Check.due("of one full of dust", x.wash(0), 100);
            Check.due("of the other one", x.wash(1), 100);
        });
        Check.sentence("6: its dust is 0", () -> {
            Recorded x = Recorded.with(new int[][] {{0, 0, 0}, {0, 5, 0}});
            x.pass(4);
            x.wash(0);
            Check.due("of(0, 3)", x.of(0, 3), 0);
            Check.due("at(0, 5, 1)", x.at(0, 5, 1), 60);
            Check.due("not the other's: of(1, 3)", x.of(1, 3), 8);
            Check.due("at(1, 5, 1)", x.at(1, 5, 1), 55);
            Check.due("what it brought stays", x.of(0, 5), x.of(1, 5));
            x.pass(1);
            Check.due("dust settles again", x.of(0, 3), 2);
        });
        Check.sentence("6: NO_SUCH if there is no such mirror", () -> {
            Recorded x = Recorded.with(new int[][] {{0, 0, 0}, {0, 5, 0}});
            x.pass(4);
            for (int wrong : new int[] {-1, 2, 23, 24, 32, MIN, MAX}) {
                Check.changesNothing("wash(" + wrong + ")", x, () -> x.wash(wrong), NO_SUCH);
            }
            Check.due("without mirrors", new Recorded().wash(0), NO_SUCH);
            Check.due("of 24", Recorded.full().wash(24), NO_SUCH);
            Check.due("the last of 24", Recorded.full().wash(23), 0);
        });
        Check.sentence("6: this is a change", () -> {
            Recorded x = Recorded.with(new int[][] {{0, 0, 0}, {0, 5, 0}});
            x.pass(4);
            Check.isChange("wash(1)", x, () -> x.wash(1), 8);
            Check.isChange("wash(1) again", x, () -> x.wash(1), 0);
        });
    }

    private static void promise7Wind() {
        Check.sentence("7: wind: 0 to 99", () -> {
            Recorded x = Recorded.with(new int[][] {{0, 0, 0}});
            Check.due("wind(99)", x.wind(99), 1);
            Check.due("count(2)", x.count(2), 99);
            Check.due("wind(0)", x.wind(0), 0);
            Check.due("count(2)", x.count(2), 0);
            x.wind(7);
            for (int wrong : new int[] {-1, 100, 101, MIN, MAX}) {
                Check.changesNothing("wind(" + wrong + ")", x, () -> x.wind(wrong), BAD_VALUE);
            }
        });
        Check.sentence("7: returns 1 if mirrors lie flat then, otherwise 0", () -> {
            Recorded x = Recorded.with(new int[][] {{0, 0, 0}});
            Check.due("wind(49)", x.wind(49), 0);
            Check.due("wind(50)", x.wind(50), 0);
            Check.due("wind(51)", x.wind(51), 1);
            Check.due("count(3)", x.count(3), 1);
            x.set(WIND, 1);
            Check.due("WIND 1: wind(0)", x.wind(0), 0);
            Check.due("WIND 1: wind(1)", x.wind(1), 0);
            Check.due("WIND 1: wind(2)", x.wind(2), 1);
            x.set(WIND, 99);
            Check.due("WIND 99: wind(99)", x.wind(99), 0);
            x.set(WIND, 98);
            Check.due("WIND 98: wind(99)", x.wind(99), 1);
            Check.due("without mirrors", new Recorded().wind(51), 1);
        });
        Check.sentence("7: this is a change", () -> {
            Recorded x = Recorded.with(new int[][] {{0, 0, 0}});
            Check.isChange("wind(60)", x, () -> x.wind(60), 1);
            Check.isChange("wind(60) again", x, () -> x.wind(60), 1);
            Check.isChange("wind(0)", x, () -> x.wind(0), 0);
        });
    }

    private static void promise8Pass() {
        Check.sentence("8: days: 1 to 99", () -> {
            Recorded x = Recorded.with(new int[][] {{0, 0, 0}});
            for (int wrong : new int[] {0, -1, 100, 101, MIN, MAX}) {
                Check.changesNothing("pass(" + wrong + ")", x, () -> x.pass(wrong), BAD_VALUE);
            }
            Check.due("pass(1)", x.pass(1), 360);
            Check.due("count(0)", x.count(0), 1);
            Check.holds("pass(99) brings something", x.pass(99) > 0);
            Check.due("count(0)", x.count(0), 100);
        });
        Check.sentence("8: NOT_POSSIBLE if there would be more than 999 days", () -> {
            Recorded x = Recorded.with(new int[][] {{0, 0, 0}});
            for (int times = 0; times < 10; times++) {
                x.pass(99);
            }
            Check.due("990 days", x.count(0), 990);
            Check.changesNothing("10 more", x, () -> x.pass(10), SunMirrors.NOT_POSSIBLE);
            Check.changesNothing("99 more", x, () -> x.pass(99), SunMirrors.NOT_POSSIBLE);
            Check.due("9 more", x.pass(9), 0);
            Check.due("999 days", x.count(0), 999);
            Check.changesNothing("1 more", x, () -> x.pass(1), SunMirrors.NOT_POSSIBLE);
            x.undo();
            Check.due("8 instead", x.pass(8), 0);
            Check.due("1 more", x.pass(1), 0);
            Check.due("1 more", x.pass(1), SunMirrors.NOT_POSSIBLE);
        });
        Check.sentence("8: BAD_VALUE before NOT_POSSIBLE", () -> {
            Recorded x = new Recorded();
            for (int times = 0; times < 11; times++) {
                x.pass(times == 0 ? 9 : 99);
            }
            Check.due("999 days", x.count(0), 999);
            Check.due("pass(0)", x.pass(0), BAD_VALUE);
            Check.due("pass(100)", x.pass(100), BAD_VALUE);
            Check.due("pass(MAX)", x.pass(MAX), BAD_VALUE);
            Check.due("pass(99)", x.pass(99), SunMirrors.NOT_POSSIBLE);
        });
        Check.sentence("8: this is a change", () -> {
            Recorded x = Recorded.with(new int[][] {{0, 0, 0}, {5, 5, 1}});
            Check.isChange("pass(2)", x, () -> x.pass(2), 360 + 348 + 288 + 277);
            x.wind(99);
            Check.isChange("flat: pass(1)", x, () -> x.pass(1), 0);
            Recorded empty = new Recorded();
            Check.isChange("empty: pass(1)", empty, () -> empty.pass(1), 0);
        });
    }

    private static void promise8Brings() {
        Check.sentence("8: returns what they bring", () -> {
            Recorded x = Recorded.with(new int[][] {{0, 0, 0}});
            Check.due("one day", x.pass(1), 360);
            Check.due("two days with dust 2 and 4", x.pass(2), 348 + 341);
            Check.due("they alone, not those before", x.pass(1), 334);
            Check.due("count(4)", x.count(4), 360 + 348 + 341 + 334);
            Check.due("of(0, 5)", x.of(0, 5), 360 + 348 + 341 + 334);
        });
        Check.sentence("8: days pass", () -> {
            Recorded x = Recorded.with(new int[][] {{0, 0, 0}});
            x.pass(3);
            Check.due("count(0)", x.count(0), 3);
            Check.due("of(0, 3)", x.of(0, 3), 6);
            x.pass(99);
            Check.due("count(0)", x.count(0), 102);
            Check.due("of(0, 3)", x.of(0, 3), 100);
        });
        Check.sentence("8: days of mirrors that are dust alone, or lie flat, bring 0", () -> {
            Recorded x = Recorded.with(new int[][] {{0, 0, 0}});
            x.set(DUST, 20);
            x.pass(5);
            Check.due("dust 100", x.pass(1), 0);
            x.wash(0);
            x.set(DUST, 19);
            x.wind(51);
            Check.due("flat", x.pass(3), 0);
            Check.due("dust settles all the same", x.of(0, 3), 57);
            Check.due("and days pass", x.count(0), 9);
            Check.due("without mirrors", new Recorded().pass(99), 0);
        });
        Check.sentence("8: as many days at once as one by one", () -> {
            Recorded x = Recorded.full();
            Recorded y = Recorded.full();
            int sum = 0;
            for (int day = 0; day < 20; day++) {
                sum += y.pass(1);
            }
            Check.due("pass(20)", x.pass(20), sum);
            Check.due("count(4)", x.count(4), y.count(4));
            Check.holds("all is alike", x.isLike(y.field()));
        });
    }
}
