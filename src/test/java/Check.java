import java.util.Arrays;

/** Counts answers that are due, and what the tests share to ask for them. */
final class Check {
    private static int passed = 0;
    private static int failed = 0;

    private Check() {
    }

    static void due(String call, long got, long want) {
        if (got == want) {
            passed++;
        } else {
            failed++;
            System.out.println(call + " answered " + got + ", due is " + want);
        }
    }

    static void holds(String what, boolean is) {
        due(what + " (1: it holds)", is ? 1 : 0, 1);
    }

    /** Ends the test program: with exit code 1 if an answer was wrong. */
    static void end(String test) {
        System.out.println(test + ": " + passed + " answers as due, " + failed + " not");
        if (failed != 0 || passed == 0) {
            System.exit(1);
        }
    }

    /** The number by which put() takes the characters of a text of 1 to 8. */
    static long packed(String text) {
        long number = 0;
        for (char sign : text.toCharArray()) {
            number = number << 8 | sign;
        }
        return number;
    }

    /** Puts a text on the pad after what stands there, and answers the last put(). */
    static int put(SunMirrors mirrors, String text) {
        int answer = 0;
        for (int from = 0; from < text.length(); from += 8) {
            answer = mirrors.put(packed(text.substring(from, Math.min(from + 8, text.length()))));
        }
        return answer;
    }

    /**
     * Everything that the calls that change nothing tell of an object but the length of its history. It takes
     * more than the 512 calls that the document speaks of; that the program counts no calls is relied upon here.
     */
    static int[] seen(SunMirrors mirrors) {
        int[] all = new int[3000];
        int size = 0;
        for (int what = 0; what <= 11; what++) {
            all[size++] = mirrors.count(what);
        }
        int count = mirrors.count(1);
        for (int mirror = 0; mirror < count; mirror++) {
            for (int what = 0; what <= 5; what++) {
                all[size++] = mirrors.of(mirror, what);
            }
            for (int hour = 0; hour <= 10; hour++) {
                for (int what = 0; what <= 3; what++) {
                    all[size++] = mirrors.at(mirror, hour, what);
                }
            }
        }
        for (int aim = 0; aim <= 3; aim++) {
            for (int hour = 0; hour <= 10; hour++) {
                for (int what = 0; what <= 2; what++) {
                    all[size++] = mirrors.point(aim, hour, what);
                }
            }
        }
        for (int place = 0; place < 400; place++) {
            all[size++] = mirrors.in(place / 20, place % 20);
        }
        all[size++] = mirrors.leastLimit();
        all[size++] = mirrors.fault();
        return Arrays.copyOf(all, size);
    }

    /** That a call answers what is due and leaves all as it is, the history too. */
    static void changesNothing(String call, SunMirrors mirrors, java.util.function.IntSupplier doing, int want) {
        int[] before = seen(mirrors);
        int history = mirrors.count(12);
        due(call, doing.getAsInt(), want);
        holds(call + " changes nothing", Arrays.equals(before, seen(mirrors)) && history == mirrors.count(12));
    }
}
