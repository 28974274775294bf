/** Promises 18 to 21: texts. */
final class TextsTest {
    public static void main(String[] args) {
        promise18Put();
        promise18Errors();
        promise19Wipe();
        promise20NoFault();
        promise20Faults();
        promise21Orders();
        promise21FirstError();
        promise21EveryError();
        promise21OneChange();
        promise21BadText();
        Check.end("TextsTest");
    }

    private static void promise18Put() {
        SunMirrors x = new SunMirrors();
        Check.due("put of 1", x.put('x'), 1);
        Check.due("put of 2", x.put('1' << 8 | ';'), 3);
        Check.due("put of 8", x.put(Check.packed("+0.0;+1.")), 11);
        Check.due("count(11)", x.count(11), 11);
        Check.due("they stand in their order", x.fault(), 11);
        Check.due("put of 1", x.put('1'), 12);
        Check.due("they stand in their order", x.fault(), SunMirrors.NONE);
        for (int sign = 33; sign <= 126; sign++) {
            Check.due("put of " + sign, new SunMirrors().put(sign), 1);
        }
        Check.due("put is no change", x.count(12), 0);
        SunMirrors y = new SunMirrors();
        for (int times = 1; times <= 10; times++) {
            Check.due("put " + times, y.put(Check.packed("~~~~!!!!")), 8 * times);
        }
        Check.changesNothing("put of 1 on 80", y, () -> y.put('!'), SunMirrors.TOO_MANY);
        y.wipe();
        Check.put(y, "x1;x2;x3;x4;x5;x6;x7;x8;x9;x10;x11;x12;x13;x14;x15;x16;x17;x18;x19;x20;x21;");
        Check.due("75 characters", y.count(11), 75);
        Check.changesNothing("put of 6 on 75", y, () -> y.put(Check.packed("x22;x2")), SunMirrors.TOO_MANY);
        Check.due("put of 5 on 75", y.put(Check.packed("x22;x")), 80);
        Check.due("the rest of a longer text is refused", y.fault(), 80);
    }

    private static void promise18Errors() {
        SunMirrors x = new SunMirrors();
        Check.put(x, "v1");
        for (int sign = 0; sign <= 255; sign++) {
            int wrong = sign;
            if (sign < 33 || sign > 126) {
                Check.due("put of " + sign, x.put(sign), SunMirrors.BAD_VALUE);
                Check.due("put of " + sign + ", 'x'", x.put((long) wrong << 8 | 'x'), sign == 0 ? 3 : -2);
                Check.due("put of 'x', " + sign, x.put((long) 'x' << 8 | wrong), SunMirrors.BAD_VALUE);
                Check.due("put of 8 with " + sign, x.put((Check.packed("1234567")) | (long) wrong << 56),
                    sign == 0 ? 10 : -2);
            }
        }
        Check.due("length", x.count(11), 10);
        long[] wrongs = {0, -1, Long.MIN_VALUE, Long.MAX_VALUE, 1L << 8, 1L << 63 | 'x', (long) 'x' << 16 | 'x',
            (long) 'x' << 56, (long) 'x' << 32, 0x7878780078787878L, 0x7878787878787F78L, 0x8078787878787878L};
        for (long wrong : wrongs) {
            Check.changesNothing("put(" + wrong + ")", x, () -> x.put(wrong), SunMirrors.BAD_VALUE);
        }
        SunMirrors y = new SunMirrors();
        for (int times = 0; times < 10; times++) {
            y.put(Check.packed("xxxxxxxx"));
        }
        Check.changesNothing("full: put(0)", y, () -> y.put(0), SunMirrors.BAD_VALUE);
        Check.changesNothing("full: put(32)", y, () -> y.put(32), SunMirrors.BAD_VALUE);
        Check.changesNothing("full: put('x')", y, () -> y.put('x'), SunMirrors.TOO_MANY);
    }

    private static void promise19Wipe() {
        SunMirrors x = new SunMirrors();
        Check.due("wipe()", x.wipe(), 0);
        Check.put(x, "x1;;;;;;;;x");
        Check.due("wipe()", x.wipe(), 11);
        Check.due("wipe()", x.wipe(), 0);
        Check.due("count(11)", x.count(11), 0);
        Check.put(x, "v5");
        Check.due("nothing of the old one is left", x.fault(), SunMirrors.NONE);
        Check.due("wipe is no change", x.count(12), 0);
    }

    private static void promise20NoFault() {
        String[] texts = {"+0.0", "+99.99", "+0.0a0", "+10.9a3", "x0", "x99", "x1;x2", "a0>0", "a99>3", "w0", "w10",
            "v0", "v99", "t0", "t99", "+1.2;+3.4a1;x5;a6>2;w7;v8;t9",
            "x0;x0;x0;x0;x0;x0;x0;x0;x0;x0;x0;x0;x0;x0;x0;x0;x0;x0;x0;x0;x0;x0;x0;x0;x0;x0;x0"};
        for (String text : texts) {
            Check.due(text, faultOf(text), SunMirrors.NONE);
        }
        SunMirrors x = new SunMirrors();
        Check.put(x, "+1.1");
        Check.due("fault() twice", x.fault() + x.fault(), 2 * SunMirrors.NONE);
        Check.due("the pad stays", x.count(11), 4);
        Check.due("nothing is carried out", x.count(1), 0);
    }

    private static void promise20Faults() {
        Check.due("the empty text", new SunMirrors().fault(), 0);
        String[] early = {"+", "+1", "+12", "+1.", "+0", "+0.", "+1.2a", "x", "a", "a1", "a0", "a12>", "w", "v", "t",
            "x1;", "x1;+1.2;", "x1;a"};
        for (String text : early) {
            Check.due(text, faultOf(text), text.length());
        }
        String[] wrongs = {"!", "X1", "0", ";", "1", ">", ".", "y1", "b1", "+a1", "+.1", "+-1", "x:", "x/", "+:.1", "+/", "a:>1", "a/", "x;", "xx", "x-1",
            "a>1", "w;", "v;", "tt", "++", "~"};
        for (String text : wrongs) {
            Check.due(text, faultOf(text), text.startsWith("x") || text.startsWith("a") || text.startsWith("w")
                || text.startsWith("v") || text.startsWith("t") || text.startsWith("+") ? 1 : 0);
        }
        Object[][] later = {{"x00", 2}, {"x01", 2}, {"x100", 3}, {"x999", 3}, {"+00.1", 2}, {"+1.00", 4},
            {"+1.100", 5}, {"+100.1", 3}, {"+1,1", 2}, {"+1.a1", 3}, {"+1.1a4", 5}, {"+1.1a01", 6}, {"+1.1a11", 6},
            {"+1.1a1a1", 6}, {"+1.1>1", 4}, {"+1.1x", 4}, {"+1a1", 2}, {"+1;", 2}, {"a1>4", 3}, {"a1>9", 3},
            {"a1>11", 4}, {"a1>0;x", 6}, {"a100>1", 3}, {"a1.1", 2}, {"a1;", 2}, {"a1>;", 3}, {"x1x1", 2},
            {"x1a1", 2}, {"x1>1", 2}, {"w1a1", 2}, {"v1.1", 2}, {"t1 1", 2}, {"x1;;x1", 3}, {"x1;y", 3},
            {"x1;x1;x1;+1.1a5", 14}, {"v99;v100", 7}, {"x1,x1", 2}, {"t1:", 2}, {"t1/", 2}, {"a1>/", 3},
            {"a1>:", 3}, {"+1.1a/", 5}, {"+1./", 3}, {"+1.:", 3}, {"+1.1:", 4}, {"x1;1", 3}};
        for (Object[] due : later) {
            String text = ((String) due[0]).replace(' ', '!');
            Check.due(text, faultOf(text), (Integer) due[1]);
        }
    }

    private static int faultOf(String text) {
        SunMirrors x = new SunMirrors();
        Check.put(x, text);
        return x.fault();
    }

    private static void promise21Orders() {
        SunMirrors x = new SunMirrors();
        Check.put(x, "+0.3;+19.19a3;+5.7a1;+10.0a2;t2;w1;a2>3;v51;x0");
        Check.due("carryOut()", x.carryOut(), 9);
        Check.due("the pad is empty", x.count(11), 0);
        int[][] facts = {{19, 19, 3, 0}, {5, 7, 3, 4}, {10, 0, 2, 4}};
        Check.due("count(1)", x.count(1), 3);
        for (int mirror = 0; mirror < 3; mirror++) {
            for (int what = 0; what < 4; what++) {
                Check.due("of(" + mirror + ", " + what + ")", x.of(mirror, what), facts[mirror][what]);
            }
        }
        Check.due("count(0)", x.count(0), 2);
        Check.due("count(2)", x.count(2), 51);
        Check.due("count(3)", x.count(3), 1);
        Check.due("count(12)", x.count(12), 1);
        Check.put(x, "v0");
        Check.due("carryOut() of one", x.carryOut(), 1);
        Check.put(x, "+0.3a0");
        Check.due("carryOut() of one", x.carryOut(), 1);
        Check.due("aim point 0", x.of(3, 2), 0);
        Check.due("the text before is forgotten", x.count(1), 4);
        Check.put(x, "v1;v2;v3");
        Check.due("carryOut() of three", x.carryOut(), 3);
        Check.put(x, "v4");
        Check.due("carryOut() of one", x.carryOut(), 1);
        Check.due("the text before is forgotten", x.count(2), 4);
    }

    private static void promise21FirstError() {
        SunMirrors x = new SunMirrors();
        Check.put(x, "+0.0;+0.1;+0.1;+0.2");
        Check.due("carryOut()", x.carryOut(), 2);
        Check.due("those after it are not carried out", x.count(1), 2);
        Check.due("the pad is empty", x.count(11), 0);
        Check.due("one change", x.count(12), 1);
        Check.put(x, "x2;x0");
        Check.due("carryOut()", x.carryOut(), 0);
        Check.due("nothing is different", x.count(1), 2);
        Check.due("also if none is carried out", x.count(12), 2);
        Check.due("the pad is empty", x.count(11), 0);
    }

    private static void promise21EveryError() {
        String[] texts = {"+20.0", "+0.20", "+99.99a3", "+3.3", "x1", "x99", "a1>0", "a24>3", "w1", "w99", "t0"};
        for (String text : texts) {
            SunMirrors x = new SunMirrors();
            x.mirror(3, 3, 0);
            Check.put(x, "v7;" + text + ";v8");
            Check.due("v7;" + text + ";v8", x.carryOut(), 1);
            Check.due(text + ": count(2)", x.count(2), 7);
            Check.due(text + ": count(1)", x.count(1), 1);
        }
        SunMirrors x = new SunMirrors();
        Check.put(x, "t99;t99;t99;t99;t99;t99;t99;t99;t99;t99;t10;t9");
        Check.due("more than 999 days", x.carryOut(), 10);
        Check.due("count(0)", x.count(0), 990);
        Check.put(x, "t9;t1");
        Check.due("999 days", x.carryOut(), 1);
        SunMirrors y = new SunMirrors();
        for (int number = 0; number < 24; number++) {
            y.mirror(number / 20, number % 20, 0);
        }
        Check.put(y, "x23;+9.9;+8.8");
        Check.due("more than 24 mirrors", y.carryOut(), 2);
    }

    private static void promise21OneChange() {
        SunMirrors x = new SunMirrors();
        x.wind(3);
        Check.put(x, "+1.1;+2.2;+3.3;+4.4;+5.5;+6.6;+7.7;+8.8;v9;t3");
        Check.due("carryOut()", x.carryOut(), 10);
        Check.due("count(12)", x.count(12), 2);
        Check.put(x, "x1");
        Check.due("undo()", x.undo(), 1);
        Check.due("undone: count(1)", x.count(1), 0);
        Check.due("undone: count(2)", x.count(2), 3);
        Check.due("undone: count(0)", x.count(0), 0);
        Check.due("the pad is not undone", x.count(11), 2);
    }

    private static void promise21BadText() {
        SunMirrors x = new SunMirrors();
        Check.changesNothing("empty: carryOut()", x, () -> x.carryOut(), SunMirrors.BAD_TEXT);
        Check.put(x, "+1.1;+2.2;");
        Check.changesNothing("early end: carryOut()", x, () -> x.carryOut(), SunMirrors.BAD_TEXT);
        Check.due("the pad stays", x.count(11), 10);
        Check.put(x, "y");
        Check.changesNothing("fault: carryOut()", x, () -> x.carryOut(), SunMirrors.BAD_TEXT);
        Check.due("the pad stays", x.count(11), 11);
        Check.due("none is carried out", x.count(1), 0);
        Check.due("no change", x.count(12), 0);
    }
}
