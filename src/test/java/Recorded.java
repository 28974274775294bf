import java.util.ArrayList;
import java.util.Arrays;
import java.util.List;
import java.util.function.ToIntFunction;

/**
 * A SunMirrors that remembers its calls, so that they can be made again on a new one. It refuses the 513th call,
 * as the document says nothing of it.
 */
final class Recorded {
    /** The parts of what an object can tell: no object has calls enough for all of them. */
    static final int PARTS = 3;
    private static final int MOST_CALLS = 512;
    private static final int BRIEFLY = 6;

    private final SunMirrors mirrors = new SunMirrors();
    private final List<ToIntFunction<SunMirrors>> calls = new ArrayList<>();

    /** An object with mirrors, each given by its row, its column and its aim point. */
    static Recorded with(int[]... places) {
        Recorded recorded = new Recorded();
        for (int[] place : places) {
            recorded.mirror(place[0], place[1], place[2]);
        }
        return recorded;
    }

    /** 24 mirrors, none shaded and none blocked: 20 in row 0 and 4 in row 19, of each point every fourth. */
    static Recorded full() {
        Recorded recorded = new Recorded();
        for (int number = 0; number < 24; number++) {
            recorded.mirror(number / 20 * 19, number % 20, number % 4);
        }
        return recorded;
    }

    /** A new object on which the first calls of this one have been made. */
    Recorded again(int first) {
        Recorded other = new Recorded();
        for (ToIntFunction<SunMirrors> call : calls.subList(0, first)) {
            other.call(call);
        }
        return other;
    }

    int calls() {
        return calls.size();
    }

    /** What the object tells: 0 of its field and its pad, 1 of what can be undone, 2 of what is saved. */
    int[] tell(int part) {
        List<Integer> told = new ArrayList<>();
        if (part == 0) {
            tellFully(told);
            told.add(fault());
            told.add(carryOut());
            tellBriefly(told);
        } else if (part == 1) {
            for (int times = 0; times <= 6; times++) {
                told.add(undo());
                tellBriefly(told);
            }
        } else {
            for (int slot = 0; slot <= 1; slot++) {
                told.add(restore(slot));
                tellBriefly(told);
            }
        }
        return told.stream().mapToInt(Integer::intValue).toArray();
    }

    /** All of the field, told by a new object with the same calls: this one stays as it is. */
    int[] field() {
        List<Integer> told = new ArrayList<>();
        again(calls()).tellFully(told);
        return told.stream().mapToInt(Integer::intValue).toArray();
    }

    boolean isLike(int[] field) {
        return Arrays.equals(field(), field);
    }

    private void tellFully(List<Integer> told) {
        for (int what = 0; what <= 10; what++) {
            told.add(count(what));
        }
        int mirrors = count(1);
        for (int mirror = 0; mirror < mirrors; mirror++) {
            for (int what = 0; what <= 5; what++) {
                told.add(of(mirror, what));
            }
        }
        for (int hour = 0; hour <= 10; hour++) {
            for (int aim = 0; aim <= 3; aim++) {
                told.add(point(aim, hour, 0));
                told.add(point(aim, hour, 2));
            }
        }
    }

    private void tellBriefly(List<Integer> told) {
        for (int what = 0; what <= 12; what++) {
            told.add(count(what));
        }
        int mirrors = count(1);
        for (int mirror = 0; mirror < Math.min(BRIEFLY, mirrors); mirror++) {
            for (int what : new int[] {0, 1, 2, 3, 5}) {
                told.add(of(mirror, what));
            }
        }
    }

    private int call(ToIntFunction<SunMirrors> call) {
        if (calls.size() == MOST_CALLS) {
            throw new IllegalStateException("the test makes more than " + MOST_CALLS + " calls on an object");
        }
        calls.add(call);
        return call.applyAsInt(mirrors);
    }

    // ---- the face

    int set(int setting, int value) {
        return call(x -> x.set(setting, value));
    }

    int mirror(int row, int column, int aim) {
        return call(x -> x.mirror(row, column, aim));
    }

    int take(int mirror) {
        return call(x -> x.take(mirror));
    }

    int aim(int mirror, int aim) {
        return call(x -> x.aim(mirror, aim));
    }

    int wash(int mirror) {
        return call(x -> x.wash(mirror));
    }

    int wind(int wind) {
        return call(x -> x.wind(wind));
    }

    int pass(int days) {
        return call(x -> x.pass(days));
    }

    int of(int mirror, int what) {
        return call(x -> x.of(mirror, what));
    }

    int at(int mirror, int hour, int what) {
        return call(x -> x.at(mirror, hour, what));
    }

    int point(int aim, int hour, int what) {
        return call(x -> x.point(aim, hour, what));
    }

    int count(int what) {
        return call(x -> x.count(what));
    }

    int in(int row, int column) {
        return call(x -> x.in(row, column));
    }

    int worthLeast(int what) {
        return call(x -> x.worthLeast(what));
    }

    int bestColumn(int row, int aim, int what) {
        return call(x -> x.bestColumn(row, aim, what));
    }

    int toWash() {
        return call(x -> x.toWash());
    }

    int leastLimit() {
        return call(x -> x.leastLimit());
    }

    int put(long characters) {
        return call(x -> x.put(characters));
    }

    int wipe() {
        return call(x -> x.wipe());
    }

    int fault() {
        return call(x -> x.fault());
    }

    int carryOut() {
        return call(x -> x.carryOut());
    }

    int undo() {
        return call(x -> x.undo());
    }

    int save(int slot) {
        return call(x -> x.save(slot));
    }

    int restore(int slot) {
        return call(x -> x.restore(slot));
    }
}
