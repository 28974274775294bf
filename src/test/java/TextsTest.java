/** The texts of "Terms", and promises 18 to 21. */
final class TextsTest {
    private static final int BAD_VALUE = SunMirrors.BAD_VALUE;
    private static final int BAD_TEXT = SunMirrors.BAD_TEXT;
    private static final int TOO_MANY = SunMirrors.TOO_MANY;
    private static final int NONE = SunMirrors.NONE;
    private static final String DIGITS = "0123456789";
    /** 80 characters: as many orders as there can be. */
    private static final String ORDERS_27 =
        "x0;x0;x0;x0;x0;x0;x0;x0;x0;x0;x0;x0;x0;x0;x0;x0;x0;x0;x0;x0;x0;x0;x0;x0;x0;x0;x0";

    public static void main(String[] args) {
        sentences();
        Check.end("TextsTest");
    }

    static void sentences() {
        texts();
        numbers();
        faults();
        promise18Put();
        promise18Errors();
        promise19Wipe();
        promise20Fault();
        promise21Orders();
        promise21FirstError();
        promise21Change();
        promise21BadText();
    }

    private static int faultOf(String text) {
        Recorded x = new Recorded();
        Check.put(x, text);
        return x.fault();
    }

    private static void isText(String... texts) {
        for (String text : texts) {
            Check.due(text, faultOf(text), NONE);
        }
    }

    /** That behind a text just these characters can stand: with any other the fault is where it stands. */
    private static void canStand(String text, String signs) {
        for (char sign = 33; sign <= 126; sign++) {
            int fault = faultOf(text + sign);
            int length = text.length();
            if (signs.indexOf(sign) >= 0) {
                Check.holds(text + sign + " may go on: " + fault, fault == NONE || fault == length + 1);
            } else {
                Check.due(text + sign, fault, length);
            }
        }
    }

    private static void texts() {
        Check.sentence("Texts: text = order { \";\" order }", () -> {
            isText("x0", "x0;x0", "x0;w1;v2;t3;a4>0;+5.6", "+1.2;+3.4a1;x5;a6>2;w7;v8;t9", ORDERS_27);
            for (String order : new String[] {"x1", "x10", "w1", "v99", "t0", "a1>2", "+1.2a0", "+1.10a3"}) {
                canStand(order + ";", "+xawvt");
            }
            Check.due(";", faultOf(";"), 0);
            Check.due("x1;;x1", faultOf("x1;;x1"), 3);
        });
        Check.sentence("Texts: order = \"+\" or \"x\" or \"a\" or \"w\" or \"v\" or \"t\"", () -> canStand("", "+xawvt"));
        Check.sentence("Texts: \"+\" number \".\" number [ \"a\" digit ]", () -> {
            isText("+0.0", "+99.99", "+0.0a0", "+10.9a3", "+1.1;+1.1a1;+1.1");
            canStand("+", DIGITS);
            canStand("+1", DIGITS + ".");
            canStand("+12", ".");
            canStand("+1.", DIGITS);
            canStand("+1.1", DIGITS + "a;");
            canStand("+1.12", "a;");
            canStand("+1.1a", "0123");
            canStand("+1.1a1", ";");
        });
        Check.sentence("Texts: \"x\" number", () -> numberAlone("x"));
        Check.sentence("Texts: \"w\" number", () -> numberAlone("w"));
        Check.sentence("Texts: \"v\" number", () -> numberAlone("v"));
        Check.sentence("Texts: \"t\" number", () -> numberAlone("t"));
        Check.sentence("Texts: \"a\" number \">\" digit", () -> {
            isText("a0>0", "a99>3", "a1>1;a1>1");
            canStand("a", DIGITS);
            canStand("a1", DIGITS + ">");
            canStand("a12", ">");
            canStand("a1>", "0123");
            canStand("a1>1", ";");
        });
    }

    private static void numberAlone(String letter) {
        isText(letter + "0", letter + "9", letter + "10", letter + "99", letter + "1;" + letter + "1");
        canStand(letter, DIGITS);
        canStand(letter + "1", DIGITS + ";");
        canStand(letter + "12", ";");
    }

    private static void numbers() {
        String[][] places = {{"+", ".1"}, {"+1.", ""}, {"+1.", "a1"}, {"x", ""}, {"a", ">1"}, {"w", ""}, {"v", ""},
            {"t", ""}};
        Check.sentence("Texts: a digit is 0 to 3", () -> {
            for (String before : new String[] {"+1.1a", "+1.10a", "+1.0a", "a1>", "a10>", "a0>"}) {
                isText(before + "0", before + "3", before + "0;x1", before + "3;x1");
                Check.due(before + "4", faultOf(before + "4"), before.length());
                Check.due(before + "9", faultOf(before + "9"), before.length());
                Check.due(before + "/", faultOf(before + "/"), before.length());
                Check.due(before + "11", faultOf(before + "11"), before.length() + 1);
                Check.due(before + "00", faultOf(before + "00"), before.length() + 1);
            }
        });
        Check.sentence("Texts: a number is 0 to 99", () -> {
            for (String[] place : places) {
                for (int number = 0; number <= 99; number++) {
                    isText(place[0] + number + place[1]);
                }
            }
        });
        Check.sentence("Texts: the fault is a digit by which a number would be above 99", () -> {
            for (String[] place : places) {
                for (int number : new int[] {100, 101, 109, 110, 199, 200, 255, 256, 990, 999}) {
                    String text = place[0] + number + place[1];
                    Check.due(text, faultOf(text), place[0].length() + 2);
                }
            }
        });
        Check.sentence("Texts: a number is without leading zeros", () -> {
            for (String[] place : places) {
                for (String number : new String[] {"00", "01", "09", "000", "010"}) {
                    String text = place[0] + number + place[1];
                    Check.due(text, faultOf(text), place[0].length() + 1);
                }
            }
        });
    }

    private static void faults() {
        Check.sentence("Texts: the fault is the first character that cannot stand at its place", () -> {
            Object[][] dues = {{"y", 0}, {"xy", 1}, {"x1y", 2}, {"x1;y", 3}, {"x100;y", 3}, {"y;y;y", 0},
                {"x1;x1;x1;+1.1a5", 14}, {"v99;v100", 7}, {"x1x1", 2}, {"+1a1", 2}, {"+1.a1", 3}, {"+1.1a1a1", 6},
                {"a1>4;x", 3}, {"a1>", 3}, {"x1;;x1", 3}, {";x1", 0}, {"x1,x1", 2}, {"+1,1", 2}, {"X1", 0}};
            for (Object[] due : dues) {
                Check.due((String) due[0], faultOf((String) due[0]), (Integer) due[1]);
            }
        });
        Check.sentence("Texts: if it ends too early, it is the length of the text", () -> {
            String[] early = {"+", "+1", "+12", "+1.", "+0", "+0.", "+99.", "+1.2a", "+1.23a", "x", "a", "a1", "a0",
                "a12", "a1>", "a12>", "w", "v", "t", "x1;", "x1;+1.2;", "x1;a", "+1.2a3;", "a1>2;"};
            for (String text : early) {
                Check.due(text, faultOf(text), text.length());
            }
        });
        Check.sentence("Texts: also if it is empty", () -> {
            Check.due("never anything", new Recorded().fault(), 0);
            Recorded x = new Recorded();
            Check.put(x, "x1");
            x.wipe();
            Check.due("wiped", x.fault(), 0);
            Check.carryOut(x, "v1");
            Check.due("carried out", x.fault(), 0);
        });
        Check.sentence("Texts: of a pad with 80 characters", () -> {
            Check.due("no fault", faultOf(ORDERS_27), NONE);
            String text = ORDERS_27.substring(0, 79);
            Check.due("the last cannot stand", faultOf(text + "x"), 79);
            Check.due("the last but one cannot stand", faultOf(text.substring(0, 78) + "0;"), 78);
            Check.due("it ends too early", faultOf(ORDERS_27.substring(0, 75) + "x1;+1"), 80);
            Check.due("it ends too early", faultOf(ORDERS_27.substring(0, 75) + "+1.1;"), 80);
            Check.due("it ends too early", faultOf("t10;" + ORDERS_27.substring(0, 75) + "x"), 80);
            Check.due("the first cannot stand", faultOf("y" + text), 0);
        });
    }

    private static void promise18Put() {
        Check.sentence("18: 1 to 8 characters", () -> {
            String signs = "!~AZaz09";
            for (int count = 1; count <= 8; count++) {
                Recorded x = new Recorded();
                Check.due("put of " + count, x.put(Check.packed(signs.substring(0, count))), count);
                Check.due("put of " + count + " more", x.put(Check.packed(signs.substring(0, count))), 2 * count);
            }
        });
        Check.sentence("18: appends characters: the lowest 8 bits are the last one", () -> {
            Recorded x = new Recorded();
            Check.due("+0.0;+1.", x.put(0x2B302E303B2B312EL), 8);
            Check.due("fault()", x.fault(), 8);
            Check.due("1;v7", x.put(0x313B7637L), 12);
            Check.due("fault()", x.fault(), NONE);
            Check.due("carryOut()", x.carryOut(), 3);
            Check.due("in(0, 0)", x.in(0, 0), 0);
            Check.due("in(1, 1)", x.in(1, 1), 1);
            Check.due("count(2)", x.count(2), 7);
        });
        Check.sentence("18: returns the length of the pad then", () -> {
            Recorded x = new Recorded();
            for (int length = 1; length <= 80; length++) {
                Check.due("put", x.put('x'), length);
            }
            Check.due("count(11)", x.count(11), 80);
            x.wipe();
            Check.due("put", x.put('x'), 1);
        });
        Check.sentence("18: codes are 33 to 126", () -> {
            for (int sign = 33; sign <= 126; sign++) {
                Check.due("put of " + sign, new Recorded().put(sign), 1);
            }
            for (int place = 0; place < 8; place++) {
                for (long sign : new long[] {33, 126}) {
                    long others = 0x7878787878787878L & ~(255L << 8 * place);
                    Check.due(sign + " at " + place, new Recorded().put(others | sign << 8 * place), 8);
                }
            }
        });
        Check.sentence("18: 8 bits that are 0 mean that there are no more characters", () -> {
            Check.due("x", new Recorded().put(0x78L), 1);
            Check.due("xx", new Recorded().put(0x7878L), 2);
            Check.due("7 characters", new Recorded().put(0x78787878787878L), 7);
        });
        Check.sentence("18: put is no change", () -> {
            Recorded x = Recorded.with(new int[][] {{0, 0, 0}});
            x.put('x');
            Check.due("count(12)", x.count(12), 1);
            x.undo();
            Check.due("the pad is not undone", x.count(11), 1);
        });
    }

    private static void promise18Errors() {
        Check.sentence("18: BAD_VALUE if there is no character", () -> {
            Recorded x = new Recorded();
            Check.changesNothing("put(0)", x, () -> x.put(0), BAD_VALUE);
            Check.put(x, "v1");
            Check.changesNothing("put(0)", x, () -> x.put(0), BAD_VALUE);
        });
        Check.sentence("18: BAD_VALUE if a code is not 33 to 126", () -> {
            for (int place = 0; place < 8; place++) {
                Recorded x = new Recorded();
                for (long sign : new long[] {1, 10, 31, 32, 127, 128, 160, 161, 248, 255}) {
                    long below = 0x7878787878787878L & ((1L << 8 * place) - 1);
                    long others = 0x7878787878787878L & ~(255L << 8 * place);
                    Check.due(sign + " at " + place + " of 8", x.put(others | sign << 8 * place), BAD_VALUE);
                    Check.due(sign + " before " + place, x.put(below | sign << 8 * place), BAD_VALUE);
                }
                Check.due("count(11)", x.count(11), 0);
                Check.due("put('x')", x.put('x'), 1);
            }
            Recorded y = new Recorded();
            for (long wrong : new long[] {-1, Long.MIN_VALUE, Long.MAX_VALUE, 0x7878787878787F78L,
                0x8078787878787878L, 0xFF78787878787878L}) {
                Check.changesNothing("put(" + wrong + ")", y, () -> y.put(wrong), BAD_VALUE);
            }
        });
        Check.sentence("18: BAD_VALUE if a bit above 8 bits that are 0 is not 0", () -> {
            for (int zero = 0; zero < 7; zero++) {
                Recorded x = new Recorded();
                long below = 0x7878787878787878L & ((1L << 8 * zero) - 1);
                for (int bit = 8 * zero + 8; bit < 64; bit++) {
                    Check.due("0 at " + zero + ", bit " + bit, x.put(below | 1L << bit), BAD_VALUE);
                }
                long above = 0x7878787878787878L & -1L << 8 * zero + 8;
                Check.changesNothing("characters above 0 at " + zero, x, () -> x.put(below | above), BAD_VALUE);
                Check.due("nothing above", x.put(below | (zero == 0 ? 'x' : 0)), Math.max(1, zero));
            }
        });
        Check.sentence("18: TOO_MANY if the pad would be longer than 80", () -> {
            for (int count = 1; count <= 8; count++) {
                Recorded x = new Recorded();
                Check.put(x, ORDERS_27.substring(0, 81 - count));
                String text = "yyyyyyyy".substring(0, count);
                Check.changesNothing("put of " + count, x, () -> x.put(Check.packed(text)), TOO_MANY);
                if (count > 1) {
                    Check.due("of 1 less", x.put(Check.packed(text.substring(1))), 80);
                }
                Check.changesNothing("put of 1 on 80", x, () -> x.put('!'), TOO_MANY);
                Check.changesNothing("put of 8 on 80", x, () -> x.put(Check.packed("yyyyyyyy")), TOO_MANY);
            }
        });
        Check.sentence("18: nothing of a text that is too long is put", () -> {
            Recorded x = new Recorded();
            Check.put(x, ORDERS_27.substring(0, 78));
            Check.due("put of 3 on 78", x.put(Check.packed("yyy")), TOO_MANY);
            Check.due("put of 2 on 78", x.put(Check.packed("x0")), 80);
            Check.due("fault()", x.fault(), NONE);
        });
        Check.sentence("18: BAD_VALUE before TOO_MANY", () -> {
            Recorded x = new Recorded();
            Check.put(x, ORDERS_27);
            Check.due("put(0)", x.put(0), BAD_VALUE);
            Check.due("put(32)", x.put(32), BAD_VALUE);
            Check.due("put(0x780078)", x.put(0x780078L), BAD_VALUE);
            Check.due("put('x')", x.put('x'), TOO_MANY);
        });
    }

    private static void promise19Wipe() {
        Check.sentence("19: returns the length that it had", () -> {
            Recorded x = new Recorded();
            Check.due("of an empty one", x.wipe(), 0);
            Check.put(x, "x1;;;;;;;;x");
            Check.due("of 11", x.wipe(), 11);
            Check.due("again", x.wipe(), 0);
            Check.put(x, ORDERS_27);
            Check.due("of a full one", x.wipe(), 80);
        });
        Check.sentence("19: empties the pad", () -> {
            Recorded x = new Recorded();
            Check.put(x, ORDERS_27);
            x.wipe();
            Check.due("count(11)", x.count(11), 0);
            Check.due("fault()", x.fault(), 0);
            Check.due("carryOut()", x.carryOut(), BAD_TEXT);
            Check.put(x, "v5");
            Check.due("nothing of the old one is left", x.fault(), NONE);
            Check.due("count(11)", x.count(11), 2);
        });
        Check.sentence("19: wipe is no change", () -> {
            Recorded x = Recorded.with(new int[][] {{0, 0, 0}});
            Check.put(x, "x0");
            x.wipe();
            Check.due("count(12)", x.count(12), 1);
            Check.due("undo()", x.undo(), 0);
            Check.due("the pad stays empty", x.count(11), 0);
        });
    }

    private static void promise20Fault() {
        Check.sentence("20: returns the fault of the pad", () -> {
            Recorded x = new Recorded();
            Check.due("of the empty one", x.fault(), 0);
            Check.put(x, "x1;");
            Check.due("x1;", x.fault(), 3);
            Check.put(x, "x2");
            Check.due("x1;x2", x.fault(), NONE);
            Check.put(x, "34");
            Check.due("x1;x234", x.fault(), 6);
        });
        Check.sentence("20: NONE if there is none", () -> {
            Recorded x = new Recorded();
            Check.put(x, "+1.1");
            Check.changesNothing("fault()", x, () -> x.fault(), NONE);
            Check.due("again", x.fault(), NONE);
            Check.due("the pad stays", x.count(11), 4);
            Check.due("nothing is carried out", x.count(1), 0);
        });
        Check.sentence("20: what an order would answer is no fault", () ->
            isText("+20.0", "+0.20", "+99.99a3", "x99", "a99>3", "w24", "t0", "x0", "+1.1;+1.1"));
    }

    private static void promise21Orders() {
        Check.sentence("21: carries the orders of the pad out", () -> {
            Recorded x = new Recorded();
            Check.due("carryOut()", Check.carryOut(x, "+0.3;+19.19a3;+5.7a1;+10.0a2;t2;w1;a2>3;v51;x0"), 9);
            int[][] facts = {{19, 19, 3, 0}, {5, 7, 3, 4}, {10, 0, 2, 4}};
            for (int mirror = 0; mirror < 3; mirror++) {
                for (int what = 0; what < 4; what++) {
                    Check.due("of(" + mirror + ", " + what + ")", x.of(mirror, what), facts[mirror][what]);
                }
            }
            Check.due("mirrors", x.count(1), 3);
            Check.due("days", x.count(0), 2);
            Check.due("wind", x.count(2), 51);
        });
        Check.sentence("21: aim point 0, if it is left out", () -> {
            Recorded x = new Recorded();
            Check.carryOut(x, "+1.1a3;+2.2;+3.3a2;+4.10");
            Check.due("of(0, 2)", x.of(0, 2), 3);
            Check.due("of(1, 2)", x.of(1, 2), 0);
            Check.due("of(2, 2)", x.of(2, 2), 2);
            Check.due("of(3, 2)", x.of(3, 2), 0);
            Check.due("of(3, 1)", x.of(3, 1), 10);
        });
        Check.sentence("21: one after the other", () -> {
            Recorded x = Recorded.with(new int[][] {{0, 0, 0}, {0, 5, 1}, {0, 9, 2}});
            Check.due("x2;x0;x0", Check.carryOut(x, "x2;x0;x0"), 3);
            Check.due("none is left", x.count(1), 0);
            Check.due("v1;v2;v3", Check.carryOut(x, "v1;v2;v3"), 3);
            Check.due("the last wind", x.count(2), 3);
            Check.due("+1.1;x0;+1.1;t1;+1.1", Check.carryOut(x, "+1.1;x0;+1.1;t1;+1.1"), 4);
            Check.due("dust of the second one", x.of(0, 3), 2);
        });
        Check.sentence("21: with numbers up to 99", () -> {
            Recorded x = new Recorded();
            Check.due("v99;t99", Check.carryOut(x, "v99;t99"), 2);
            Check.due("wind", x.count(2), 99);
            Check.due("days", x.count(0), 99);
            Check.due("v0", Check.carryOut(x, "v0;t10"), 2);
            Check.due("wind", x.count(2), 0);
            Check.due("days", x.count(0), 109);
        });
        Check.sentence("21: empties the pad", () -> {
            Recorded x = new Recorded();
            Check.carryOut(x, "v1;v2");
            Check.due("all carried out: count(11)", x.count(11), 0);
            Check.carryOut(x, "v1;x0;v2");
            Check.due("one carried out: count(11)", x.count(11), 0);
            Check.carryOut(x, "x0;v2");
            Check.due("none carried out: count(11)", x.count(11), 0);
            Check.due("carryOut()", x.carryOut(), BAD_TEXT);
        });
    }

    private static void promise21FirstError() {
        Check.sentence("21: up to the first one that returns an error", () -> {
            Recorded x = new Recorded();
            Check.due("carryOut()", Check.carryOut(x, "+0.0;+0.1;+0.1;+0.2;v9"), 2);
            Check.due("those after it are not carried out", x.count(1), 2);
            Check.due("nor this one", x.count(2), 0);
            String[] texts = {"+20.0", "+0.20", "+99.99a3", "+3.3", "x1", "x99", "a1>0", "a24>3", "w1", "w99", "t0"};
            for (String text : texts) {
                Recorded y = Recorded.with(new int[][] {{3, 3, 1}});
                Check.due("v7;" + text + ";v8", Check.carryOut(y, "v7;" + text + ";v8"), 1);
                Check.due(text + ": count(2)", y.count(2), 7);
                Check.due(text + ": count(1)", y.count(1), 1);
                Check.due(text + ": count(0)", y.count(0), 0);
                Check.due(text + ": of(0, 2)", y.of(0, 2), 1);
            }
        });
        Check.sentence("21: up to the first one that returns an error: full, and the last day", () -> {
            Recorded x = Recorded.full();
            Check.due("more than 24 mirrors", Check.carryOut(x, "x23;+9.9;+8.8;v3"), 2);
            Check.due("24 mirrors", x.count(1), 24);
            Check.due("990 days, and 10", Check.carryOut(x, "t99;t99;t99;t99;t99;t99;t99;t99;t99;t99;t10;t9"), 10);
            Check.due("count(0)", x.count(0), 990);
            Check.due("9 and 1", Check.carryOut(x, "t9;t1;t1"), 1);
            Check.due("count(0)", x.count(0), 999);
        });
        Check.sentence("21: returns how many orders were carried out", () -> {
            Recorded x = new Recorded();
            Check.due("none", Check.carryOut(x, "x0"), 0);
            Check.due("one", Check.carryOut(x, "v1"), 1);
            Check.due("one of two", Check.carryOut(x, "v1;x0"), 1);
            Check.due("two of two", Check.carryOut(x, "v1;v2"), 2);
            Recorded full = Recorded.full();
            Check.due("24 of 27", Check.carryOut(full, ORDERS_27), 24);
            Recorded y = new Recorded();
            Check.due("27 of 27", Check.carryOut(y, ORDERS_27.replace('x', 'v')), 27);
        });
        Check.sentence("21: nothing of a text before is left", () -> {
            Recorded x = new Recorded();
            Check.carryOut(x, "+1.1a3;+2.2a3;+3.3a3");
            Check.due("+4.4", Check.carryOut(x, "+4.4"), 1);
            Check.due("of(3, 2)", x.of(3, 2), 0);
            Check.due("count(1)", x.count(1), 4);
            Check.due("v1;v2;v3", Check.carryOut(x, "v1;v2;v3"), 3);
            Check.due("v4", Check.carryOut(x, "v4"), 1);
            Check.due("count(2)", x.count(2), 4);
            Check.due("v5;v6", Check.carryOut(x, "v5;v6"), 2);
            Check.due("count(2)", x.count(2), 6);
        });
    }

    private static void promise21Change() {
        Check.sentence("21: this is a change (one, with all of them)", () -> {
            Recorded x = Recorded.with(new int[][] {{0, 0, 0}});
            Check.put(x, "+1.1;+2.2a1;x0;t3;w0;a1>2;v9;+4.4;x1");
            Check.isChange("carryOut()", x, () -> x.carryOut(), 9);
            Check.due("count(12)", x.count(12), 2);
            Check.due("undo()", x.undo(), 1);
            Check.due("undo()", x.undo(), 0);
            Check.due("count(1)", x.count(1), 0);
        });
        Check.sentence("21: this is a change (also up to an error)", () -> {
            Recorded x = Recorded.with(new int[][] {{0, 0, 0}});
            Check.put(x, "+1.1;v9;x2;v8");
            Check.isChange("carryOut()", x, () -> x.carryOut(), 2);
        });
        Check.sentence("21: this is a change (also if none is carried out)", () -> {
            Recorded x = Recorded.with(new int[][] {{0, 0, 0}});
            Check.put(x, "x1;x0");
            Check.isChange("carryOut()", x, () -> x.carryOut(), 0);
            Check.due("count(12)", x.count(12), 2);
            Check.due("nothing is different", x.count(1), 1);
        });
    }

    private static void promise21BadText() {
        Check.sentence("21: BAD_TEXT if the pad has a fault (then it stays)", () -> {
            Recorded x = new Recorded();
            Check.put(x, "+1.1;+2.2;y");
            Check.changesNothing("carryOut()", x, () -> x.carryOut(), BAD_TEXT);
            Check.due("the pad stays", x.count(11), 11);
            Check.due("its text too", x.fault(), 10);
            Check.due("none is carried out", x.count(1), 0);
            Check.due("no change", x.count(12), 0);
        });
        Check.sentence("21: BAD_TEXT if the pad ends too early", () -> {
            Recorded x = new Recorded();
            Check.put(x, "+1.1;+2.2;");
            Check.changesNothing("carryOut()", x, () -> x.carryOut(), BAD_TEXT);
            Check.put(x, "v9");
            Check.due("its rest may still come", x.carryOut(), 3);
        });
        Check.sentence("21: BAD_TEXT if the pad is empty", () -> {
            Recorded x = Recorded.with(new int[][] {{0, 0, 0}});
            Check.changesNothing("carryOut()", x, () -> x.carryOut(), BAD_TEXT);
            Check.due("no change", x.count(12), 1);
        });
    }
}
