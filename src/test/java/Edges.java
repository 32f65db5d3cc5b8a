import java.math.BigInteger;
import java.util.ArrayList;
import java.util.List;

/** What the tests of single sentences have in common. */
final class Edges {
    static final Class<IllegalArgumentException> ARGUMENT = IllegalArgumentException.class;
    static final Class<IndexOutOfBoundsException> PLACE = IndexOutOfBoundsException.class;
    static final Class<IllegalStateException> STATE = IllegalStateException.class;

    /** Where looks() tells the thresholds of 4 cylinders, and where it begins with the learned retards. */
    static final int[] THRESHOLDS = {19, 24, 29, 34};
    static final int LEARNED = 36;

    /** A call with one of its arguments free. */
    interface CallWith {
        long answer(KnockControl x, int value);
    }

    private Edges() {
    }

    /** All values from least to most are taken; the ones outside are refused and change nothing. */
    static void range(String call, int least, int most, Class<? extends RuntimeException> refusal, CallWith made) {
        int stride = Math.max(1, (most - least) / 50);
        for (int value = least; value < most; value += stride) {
            taken(call, value, made);
        }
        taken(call, most, made);
        int[] outside = {least - 1, most + 1, least - 256, most + 256, Integer.MIN_VALUE, Integer.MAX_VALUE};
        KnockControl x = rich();
        for (int value : outside) {
            Check.refused(x, call + " with " + value, refusal, () -> made.answer(x, value));
        }
    }

    private static void taken(String call, int value, CallWith made) {
        try {
            made.answer(new KnockControl(), value);
            Check.due(call + " with " + value + " is taken", true, true);
        } catch (RuntimeException e) {
            Check.tell(call + " with " + value + " threw " + e.getClass().getName());
        }
    }

    /** A control in which most is not as it was at first; it has 4 cylinders, a full log and 3 saved states. */
    static KnockControl rich() {
        KnockControl x = new KnockControl();
        x.set(1, 1);
        Steps.fire(x, 70, 7000, 0, 551);
        x.set(1, 10);
        x.set(3, 140);
        x.set(4, 60);
        x.set(5, 7);
        x.seed(4711);
        x.teach(2, 3, 12);
        x.teach(5, 0, 3);
        x.drive(3000, 80, 84, 150);
        x.drive(6500, 10, 95, 9);
        Steps.write(x, "3000 80 551;");
        Steps.fire(x, 3, 6500, 10, 0);
        x.breakSensor(true);
        x.undo();
        return x;
    }

    /** The call saves the state from before it, and undo() restores that. */
    static void undoable(String call, CallWith made) {
        KnockControl x = rich();
        long before = x.digest();
        made.answer(x, 0);
        Check.due(call + " is kept", 3, x.undo());
        Check.due(call + " is undone", before, x.digest());
    }

    /** The call changes nothing and keeps no state. */
    static void onlyLooks(String call, CallWith made) {
        KnockControl x = rich();
        long before = x.digest();
        made.answer(x, 0);
        Check.due(call + " changes nothing", before, x.digest());
        KnockControl y = new KnockControl();
        made.answer(y, 0);
        Check.refusedState(y, "undo() after " + call, y::undo);
    }

    /** Fires with a quiet energy until the cylinder is the next one. */
    static void untilNext(KnockControl x, int cylinder) {
        for (int i = 0; i < 8 && x.next() != cylinder; i++) {
            x.fire(3000, 80, 200);
        }
    }

    static void dueFast(String when, KnockControl x, int... fast) {
        for (int c = 0; c < fast.length; c++) {
            Check.due(when + ": fast retard of " + c, fast[c], x.cylinder(c, 0));
        }
    }

    /** The latest event, told as 100000000 * kind + 1000000 * number + firing; -1 without events. */
    static long latest(KnockControl x) {
        int last = x.events() - 1;
        if (last < 0) {
            return -1;
        }
        return 100000000L * x.event(last, 0) + 1000000L * x.event(last, 1) + x.event(last, 2);
    }

    static long told(int kind, int number, int firing) {
        return 100000000L * kind + 1000000L * number + firing;
    }

    /**
     * The call changes no answer of those that looks() tells, but for the places named; it is made on
     * an object of its own, so that none is used too often.
     */
    static void changesOnly(String call, CallWith made, int... places) {
        List<Long> before = looks(rich());
        KnockControl x = rich();
        made.answer(x, 0);
        List<Long> after = looks(x);
        Check.due(call + ": how much there is", before.size(), after.size());
        for (int i = 0; i < Math.min(before.size(), after.size()); i++) {
            boolean free = false;
            for (int place : places) {
                free = free || place == i;
            }
            if (!free) {
                Check.due(call + " leaves place " + i, before.get(i), after.get(i));
            }
        }
    }

    /** What no call but digest() tells is so after the call. */
    static void leaves(String call, CallWith made, int length, long s, int broken, int saved) {
        KnockControl x = rich();
        made.answer(x, 0);
        Check.due(call + ": the rest", hash(x, length, s, broken, saved), x.digest());
    }

    /** The number s of rich(). */
    static long richS() {
        return rich().seed(0);
    }

    /** digest() counted from what the other methods answer, and from what none of them answers. */
    static long hash(KnockControl x, int length, long s, int broken, int saved) {
        List<Long> values = looks(x);
        values.add(0, (long) length);
        values.add(12, s);
        values.add(13, (long) broken);
        values.add((long) saved);
        BigInteger h = BigInteger.valueOf(2969);
        for (long v : values) {
            h = h.multiply(BigInteger.valueOf(31)).add(BigInteger.valueOf(v));
        }
        return h.longValue();
    }

    /** All that can be looked at, in the order of digest(). */
    static List<Long> looks(KnockControl x) {
        List<Long> values = new ArrayList<>();
        for (int what = 0; what <= 8; what++) {
            values.add((long) x.value(what));
        }
        values.add((long) x.firings());
        values.add((long) x.next());
        for (int what = 0; what <= 4; what++) {
            values.add((long) x.status(what));
        }
        int abouts = 5 * x.value(8);
        for (int i = 0; i < abouts; i++) {
            values.add((long) x.cylinder(i / 5, i % 5));
        }
        for (int cell = 0; cell < 24; cell++) {
            values.add((long) x.learned(cell / 4, cell % 4));
        }
        int events = x.events();
        values.add((long) events);
        for (int i = 0; i < 3 * events; i++) {
            values.add((long) x.event(i / 3, i % 3));
        }
        return values;
    }
}
