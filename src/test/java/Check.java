import java.util.Arrays;
import java.util.Set;
import java.util.TreeSet;
import java.util.function.IntSupplier;

/** Counts answers that are due, and tells of those that are not, by the sentence of the document that they break. */
final class Check {
    static final int MIN = Integer.MIN_VALUE;
    static final int MAX = Integer.MAX_VALUE;

    private static final Set<String> BROKEN = new TreeSet<>();
    private static int passed = 0;
    private static int failed = 0;
    private static int sentences = 0;
    private static String sentence = "";

    private Check() {
    }

    /** A test of its own for a sentence of the document; the words start with where they stand there. */
    static void sentence(String words, Runnable test) {
        int before = passed + failed;
        sentence = words;
        sentences++;
        try {
            test.run();
            holds("something is asked", passed + failed > before);
        } catch (RuntimeException thrown) {
            fail("threw " + thrown);
        }
        sentence = "";
    }

    static void due(String call, long got, long want) {
        if (got == want) {
            passed++;
        } else {
            fail(call + " answered " + got + ", due is " + want);
        }
    }

    static void holds(String what, boolean is) {
        if (is) {
            passed++;
        } else {
            fail("it does not hold that " + what);
        }
    }

    private static void fail(String what) {
        failed++;
        BROKEN.add(sentence);
        System.out.println((sentence.isEmpty() ? "" : "[" + sentence + "] ") + what);
    }

    /** The sentences whose tests failed. */
    static Set<String> broken() {
        return BROKEN;
    }

    /** Ends the test program: with exit code 1 if an answer was wrong. */
    static void end(String test) {
        System.out.println(test + ": " + passed + " answers as due, " + failed + " not"
            + (sentences == 0 ? "" : ", for " + sentences + " sentences"));
        if (failed != 0 || passed == 0) {
            System.exit(1);
        }
    }

    /** The number by which put() takes the characters of a text of 1 to 8. */
    static long packed(String text) {
        long number = 0;
        for (char sign : text.toCharArray()) {
            number = number << 8 | sign;
        }
        return number;
    }

    /** Puts a text on the pad after what stands there, and answers the last put(). */
    static int put(Recorded x, String text) {
        int answer = 0;
        for (int from = 0; from < text.length(); from += 8) {
            answer = x.put(packed(text.substring(from, Math.min(from + 8, text.length()))));
        }
        return answer;
    }

    /** Puts a text on the pad and carries it out. */
    static int carryOut(Recorded x, String text) {
        put(x, text);
        return x.carryOut();
    }

    /** That a call answers what is due and leaves all as it is: the field, the pad, the history and the slots. */
    static void changesNothing(String call, Recorded x, IntSupplier doing, int want) {
        due(call, doing.getAsInt(), want);
        int calls = x.calls();
        for (int part = 0; part < Recorded.PARTS; part++) {
            int[] without = x.again(calls - 1).tell(part);
            int[] with = x.again(calls).tell(part);
            holds(call + " changes nothing (part " + part + ")", Arrays.equals(without, with));
        }
    }

    /** That a call is a change: it can be undone, and then all is as it was before it. */
    static void isChange(String call, Recorded x, IntSupplier doing, int want) {
        int[] before = x.field();
        int history = x.count(12);
        due(call, doing.getAsInt(), want);
        due(call + ": count(12)", x.count(12), Math.min(history + 1, 6));
        Recorded undone = x.again(x.calls());
        due(call + ": undo()", undone.undo(), Math.min(history, 5));
        holds(call + " is undone", undone.isLike(before));
    }
}
