/** Promises 23 to 25: limit, quietAfter, lowestOctane. */
public final class ModelTest {
    public static void main(String[] args) {
        limit();
        limitRefused();
        quietAfter();
        quietAfterRefused();
        lowestOctane();
        lowestOctaneRefused();
        Check.end();
    }

    // Promise 23
    private static void limit() {
        KnockControl x = new KnockControl();
        Check.due("limit(NONE, 3000, 80, 95)", 150 + 50 - 120, x.limit(-1, 3000, 80, 95));
        Check.due("limit(NONE, 500, 0, 80)", 150 + 8 - 120, x.limit(-1, 500, 0, 80));
        Check.due("limit(NONE, 7000, 100, 110)", 150 + 116 - 150 + 120, x.limit(-1, 7000, 100, 110));
        // 33 * 3 / 2 is 49, 3059 / 60 is 50
        Check.due("limit(NONE, 3059, 33, 96)", 150 + 50 - 49 + 8, x.limit(-1, 3059, 33, 96));
        Check.due("a limit below 0", -112, x.limit(-1, 500, 100, 80));
        x.teach(2, 3, 7);
        x.fire(3000, 80, 20000);
        // advance 80 - 47, limit 80
        Check.due("limit(0, 3000, 80, 95)", -47, x.limit(0, 3000, 80, 95));
        Check.due("limit(1, 3000, 80, 95)", -7, x.limit(1, 3000, 80, 95));
        Check.due("limit(1, 3000, 80, 80)", 113, x.limit(1, 3000, 80, 80));
        Steps.makeFaulty(x);
        Check.due("with a faulty sensor", -67, x.limit(1, 3000, 80, 95));
        Check.due("the limit alone stays", 80, x.limit(KnockControl.NONE, 3000, 80, 95));
    }

    private static void limitRefused() {
        KnockControl x = new KnockControl();
        Check.due("limit(3, 7000, 100, 110)", 140 - 236, x.limit(3, 7000, 100, 110));
        Check.refusedPlace(x, "limit(-2, 3000, 80, 95)", () -> x.limit(-2, 3000, 80, 95));
        Check.refusedPlace(x, "limit(4, 3000, 80, 95)", () -> x.limit(4, 3000, 80, 95));
        Check.refusedPlace(x, "limit(4, 0, 0, 0)", () -> x.limit(4, 0, 0, 0));
        for (int c = -1; c < 1; c++) {
            int one = c;
            Check.refusedArgument(x, "limit(.., 499, 80, 95)", () -> x.limit(one, 499, 80, 95));
            Check.refusedArgument(x, "limit(.., 7001, 80, 95)", () -> x.limit(one, 7001, 80, 95));
            Check.refusedArgument(x, "limit(.., 3000, -1, 95)", () -> x.limit(one, 3000, -1, 95));
            Check.refusedArgument(x, "limit(.., 3000, 101, 95)", () -> x.limit(one, 3000, 101, 95));
            Check.refusedArgument(x, "limit(.., 3000, 80, 79)", () -> x.limit(one, 3000, 80, 79));
            Check.refusedArgument(x, "limit(.., 3000, 80, 111)", () -> x.limit(one, 3000, 80, 111));
        }
    }

    // Promise 24
    private static void quietAfter() {
        for (int cylinders = 2; cylinders <= 8; cylinders++) {
            KnockControl x = new KnockControl();
            x.begin(cylinders);
            x.set(0, 128);
            Check.due("quiet at once, " + cylinders, 5 * cylinders, x.quietAfter(3000, 80, 110));
        }
        KnockControl x = new KnockControl();
        Steps.fire(x, 3, 3000, 80, 300);
        long before = x.digest();
        int count = x.quietAfter(3000, 80, 85);
        Check.due("the state does not change", before, x.digest());
        Check.due("and the same once more", count, x.quietAfter(3000, 80, 85));
        Check.due("as driven", countUntilQuiet(3000, 80, 85), count);
        Check.due("more than 5 cycles", true, count > 20);
        KnockControl never = new KnockControl();
        never.set(1, 1);
        never.set(2, 1);
        never.set(3, 20);
        Check.due("never quiet", -1, never.quietAfter(3000, 100, 80));
        Check.due("then, too, nothing changes", 0, never.firings());
        KnockControl broken = new KnockControl();
        broken.breakSensor(true);
        broken.begin(8);
        Check.due("a broken sensor hears nothing", 40, broken.quietAfter(3000, 100, 80));
        lastOfAThousand();
    }

    /** Drives one by one, until 20 firings in a row have not knocked. */
    private static int countUntilQuiet(int speed, int load, int octane) {
        KnockControl x = new KnockControl();
        Steps.fire(x, 3, 3000, 80, 300);
        int quiet = 0;
        int count = 0;
        while (quiet < 20 && count < 500) {
            quiet = x.drive(speed, load, octane, 1) == 1 ? 0 : quiet + 1;
            count++;
        }
        return count;
    }

    /** The last of the 5 cycles is the firing 1001 first, and the firing 1000 one firing later. */
    private static void lastOfAThousand() {
        KnockControl x = new KnockControl();
        x.set(0, 16);
        x.set(1, 1);
        x.set(2, 1);
        x.drive(3000, 80, 92, 106);
        Check.due("1000 are not enough", -1, x.quietAfter(3000, 80, 92));
        x.drive(3000, 80, 92, 1);
        Check.due("1000 are just enough", 1000, x.quietAfter(3000, 80, 92));
        x.drive(3000, 80, 92, 979);
        Check.due("it is the last one that knocks", 1, x.drive(3000, 80, 92, 1));
        Check.due("then all are quiet", 20, x.quietAfter(3000, 80, 92));
    }

    private static void quietAfterRefused() {
        KnockControl x = new KnockControl();
        Check.refusedArgument(x, "quietAfter(499, 80, 95)", () -> x.quietAfter(499, 80, 95));
        Check.refusedArgument(x, "quietAfter(7001, 80, 95)", () -> x.quietAfter(7001, 80, 95));
        Check.refusedArgument(x, "quietAfter(3000, -1, 95)", () -> x.quietAfter(3000, -1, 95));
        Check.refusedArgument(x, "quietAfter(3000, 101, 95)", () -> x.quietAfter(3000, 101, 95));
        Check.refusedArgument(x, "quietAfter(3000, 80, 79)", () -> x.quietAfter(3000, 80, 79));
        Check.refusedArgument(x, "quietAfter(3000, 80, 111)", () -> x.quietAfter(3000, 80, 111));
    }

    // Promise 25
    private static void lowestOctane() {
        KnockControl x = new KnockControl();
        // Energy 230 + r + 12 * k; the first r is 38, so k may be 23 (544) and not
        // 24 (556): 80 - 80 - 8 * (octane - 95) <= 23 from 93 on (k = 16) and not at 92 (k = 24).
        Check.due("of one firing", 93, x.lowestOctane(3000, 80, 1));
        KnockControl later = new KnockControl();
        later.seed(7);
        // Now r is 4, 6, 28, 34: with 92 it takes an r above 32 to knock.
        Check.due("of three firings", 92, later.lowestOctane(3000, 80, 3));
        Check.due("of four firings", 93, later.lowestOctane(3000, 80, 4));
        Check.due("with no octane number", -1, loud().lowestOctane(7000, 100, 100));
        KnockControl broken = new KnockControl();
        broken.breakSensor(true);
        Check.due("of a broken sensor", 80, broken.lowestOctane(7000, 100, 100));
        for (int count = 1; count <= 100; count += 9) {
            KnockControl best = new KnockControl();
            best.set(0, 16);
            check(best, 3000, 100, count);
            check(new KnockControl(), 3000, 80, count);
            check(new KnockControl(), 7000, 0, count);
            check(new KnockControl(), 500, 100, count);
        }
    }

    /** A control whose thresholds are as low as they may be. */
    private static KnockControl loud() {
        KnockControl x = new KnockControl();
        x.set(0, 16);
        Steps.fire(x, 240, 3000, 80, 10);
        return x;
    }

    private static void check(KnockControl x, int speed, int load, int count) {
        long before = x.digest();
        int answer = x.lowestOctane(speed, load, count);
        Check.due("the state does not change", before, x.digest());
        int lowest = -1;
        for (int octane = 80; octane <= 110 && lowest < 0; octane++) {
            lowest = x.drive(speed, load, octane, count) == 0 ? octane : -1;
            x.undo();
        }
        Check.due("lowestOctane(" + speed + ", " + load + ", " + count + ")", lowest, answer);
    }

    private static void lowestOctaneRefused() {
        KnockControl x = new KnockControl();
        Check.refusedArgument(x, "lowestOctane(499, 80, 1)", () -> x.lowestOctane(499, 80, 1));
        Check.refusedArgument(x, "lowestOctane(7001, 80, 1)", () -> x.lowestOctane(7001, 80, 1));
        Check.refusedArgument(x, "lowestOctane(3000, -1, 1)", () -> x.lowestOctane(3000, -1, 1));
        Check.refusedArgument(x, "lowestOctane(3000, 101, 1)", () -> x.lowestOctane(3000, 101, 1));
        Check.refusedArgument(x, "lowestOctane(3000, 80, 0)", () -> x.lowestOctane(3000, 80, 0));
        Check.refusedArgument(x, "lowestOctane(3000, 80, 101)", () -> x.lowestOctane(3000, 80, 101));
    }
}
