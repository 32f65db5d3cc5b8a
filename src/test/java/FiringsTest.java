/** Promises 8 to 11: fire, drive, firings, next; and the four steps of a firing. */
public final class FiringsTest {
    public static void main(String[] args) {
        cells();
        knocks();
        quietFirings();
        spread();
        limit();
        sensor();
        faultySensor();
        steadyCount();
        learnMore();
        learnLess();
        fireRefused();
        drive();
        driveKnocks();
        driveRefused();
        counting();
        Check.end();
    }

    private static void cells() {
        int[] speeds = {500, 1499, 1500, 2499, 2500, 3500, 4500, 5499, 5500, 6499, 6500, 7000};
        int[] rows = {0, 0, 1, 1, 2, 3, 4, 4, 5, 5, 5, 5};
        int[] loads = {0, 24, 25, 49, 50, 74, 75, 99, 100};
        int[] columns = {0, 0, 1, 1, 2, 2, 3, 3, 3};
        KnockControl x = new KnockControl();
        for (int i = 0; i < speeds.length; i++) {
            for (int k = 0; k < loads.length; k++) {
                x.fire(speeds[i], loads[k], 100);
                Check.due("cell of " + speeds[i] + ", " + loads[k], 4 * rows[i] + columns[k], x.status(4));
            }
        }
    }

    // Promise 8
    private static void knocks() {
        KnockControl x = new KnockControl();
        Check.due("fire at the threshold", 0, x.fire(3000, 80, 550));
        Check.due("its level", 51200 + (256 * 550 - 51200) / 16, x.cylinder(0, 1));
        Check.due("its quiet count", 1, x.cylinder(0, 2));
        Check.due("its threshold", 604, x.cylinder(0, 3));
        Check.due("fire above the threshold", 1, x.fire(3000, 80, 551));
        Check.due("the step", 10, x.cylinder(1, 0));
        Check.due("a knock leaves the level", 51200, x.cylinder(1, 1));
        Check.due("its knocks", 1, x.cylinder(1, 4));
        // 10 * 164 / 550 = 2
        Check.due("fire well above", 1, x.fire(3000, 80, 714));
        Check.due("step and share", 12, x.cylinder(2, 0));
        Check.due("fire with all", 1, x.fire(3000, 80, 20000));
        Check.due("step and three steps", 40, x.cylinder(3, 0));
        Check.due("fire of cylinder 0 again", 0, x.fire(3000, 80, 604));
        Check.due("fire of cylinder 1 again", 1, x.fire(3000, 80, 551));
        Check.due("retards add up", 20, x.cylinder(1, 0));
        Check.due("its knocks then", 2, x.cylinder(1, 4));
        Check.due("firings()", 6, x.firings());
        Check.due("fire is undoable", 3, x.undo());
        Check.due("undone fire", 10, x.cylinder(1, 0));
        Check.due("undone firings()", 5, x.firings());
        KnockControl share = new KnockControl();
        share.set(1, 7);
        // 7 * 1650 / 550 = 21 = 3 * 7, and one firing below that
        share.fire(3000, 80, 2199);
        share.fire(3000, 80, 2200);
        Check.due("20 and a step of 7", 27, share.cylinder(0, 0));
        Check.due("21 and a step of 7", 28, share.cylinder(1, 0));
    }

    private static void quietFirings() {
        KnockControl x = new KnockControl();
        x.begin(2);
        int[] levels = {48160, 45310, 42638};
        for (int level : levels) {
            x.fire(3000, 80, 10);
            x.fire(3000, 80, 200);
            // (2560 - 45310) / 16 is -2671.9 and rounded down
            Check.due("the level falls", level, x.cylinder(0, 1));
        }
        Check.due("a level that stays", 51200, x.cylinder(1, 1));
        KnockControl y = new KnockControl();
        y.set(2, 3);
        y.begin(2);
        y.fire(3000, 80, 551);
        y.fire(3000, 80, 200);
        int[] fast = {10, 10, 9, 9, 9, 8, 8};
        int[] quiet = {1, 2, 0, 1, 2, 0, 1};
        for (int i = 0; i < fast.length; i++) {
            y.fire(3000, 80, 200);
            y.fire(3000, 80, 200);
            Check.due("fast retard after quiet firing " + i, fast[i], y.cylinder(0, 0));
            Check.due("quiet count after quiet firing " + i, quiet[i], y.cylinder(0, 2));
        }
        Check.due("a fast retard of 0 stays", 0, y.cylinder(1, 0));
        y.fire(3000, 80, 20000);
        Check.due("a knock ends the quiet count", 0, y.cylinder(0, 2));
        y.fire(3000, 80, 200);
        y.fire(3000, 80, 200);
        y.fire(3000, 80, 200);
        y.set(2, 1);
        y.fire(3000, 80, 200);
        Check.due("a quiet count above a lowered return count ends", 0, y.cylinder(0, 2));
        Check.due("and returns", 47, y.cylinder(0, 0));
    }

    private static void spread() {
        KnockControl x = new KnockControl();
        x.set(4, 15);
        x.fire(3000, 80, 20000);
        int[] fast = {40, 25, 25, 25};
        for (int c = 0; c < 4; c++) {
            Check.due("spread: fast retard of " + c, fast[c], x.cylinder(c, 0));
        }
        for (int most = 0; most < 5; most++) {
            KnockControl five = new KnockControl();
            five.begin(5);
            five.set(4, 15);
            for (int c = 0; c <= most; c++) {
                five.fire(3000, 80, c == most ? 20000 : 200);
            }
            for (int c = 0; c < 5; c++) {
                Check.due("spread from " + most + " to " + c, c == most ? 40 : 25, five.cylinder(c, 0));
            }
        }
        x.set(2, 1);
        x.fire(3000, 80, 200);
        Check.due("a return below the spread is taken back", 25, x.cylinder(1, 0));
        KnockControl y = new KnockControl();
        y.fire(3000, 80, 20000);
        Check.due("a spread that is kept", 0, y.cylinder(1, 0));
        y.set(4, 0);
        y.fire(3000, 80, 200);
        Check.due("no spread, after a quiet firing", 40, y.cylinder(3, 0));
        Check.due("and of the one that fired", 40, y.cylinder(1, 0));
    }

    private static void limit() {
        KnockControl x = new KnockControl();
        x.set(3, 50);
        x.teach(2, 3, 15);
        x.begin(4);
        x.teach(2, 3, 15);
        Steps.fire(x, 4, 3000, 80, 20000);
        Check.due("limit less the learned retard", 35, x.cylinder(0, 0));
        Steps.fire(x, 4, 4000, 80, 20000);
        Check.due("limit in a cell without one", 50, x.cylinder(0, 0));
        Check.due("it knocks", 1, x.fire(3000, 80, 20000));
        Check.due("not below what it was", 50, x.cylinder(0, 0));
        x.set(3, 20);
        Check.due("the limit of the retard", 20, x.angle(0, 3000, 80, false));
        x.teach(2, 3, 100);
        Steps.fire(x, 3, 3000, 80, 20000);
        Check.due("a limit below the learned retard", 50, x.cylinder(1, 0));
        KnockControl y = new KnockControl();
        y.set(3, 20);
        y.set(4, 200);
        y.teach(2, 3, 100);
        y.fire(3000, 80, 20000);
        Check.due("no retard below 0", 0, y.cylinder(0, 0));
        Check.due("a knock all the same", 1, y.cylinder(0, 4));
    }

    private static void sensor() {
        KnockControl x = new KnockControl();
        for (int i = 0; i < 19; i++) {
            Check.due("low firing " + i, 0, x.fire(3000, 50, 9));
        }
        Check.due("not faulty yet", 0, x.status(0));
        Check.due("low firing 19", 2, x.fire(3000, 50, 9));
        Check.due("faulty", 1, x.status(0));
        Check.due("low count", 20, x.status(1));
        Check.due("good count", 0, x.status(2));
        Check.due("kind of the event", 1, x.event(0, 0));
        Check.due("number of the event", 0, x.event(0, 1));
        Check.due("firing of the event", 19, x.event(0, 2));
        for (int i = 0; i < 49; i++) {
            Check.due("good firing " + i, 2, x.fire(3000, 50, 10));
        }
        Check.due("still faulty", 1, x.status(0));
        Check.due("good count then", 49, x.status(2));
        Check.due("low count then", 0, x.status(1));
        Check.due("good firing 49, heard again", 1, x.fire(3000, 50, 20000));
        Check.due("sound", 0, x.status(0));
        Check.due("events of both and a knock", 3, x.events());
        Check.due("kind of the second event", 2, x.event(1, 0));
        Check.due("number of the second event", 0, x.event(1, 1));
        Check.due("firing of the second event", 69, x.event(1, 2));
        Check.due("the knock comes after it", 0, x.event(2, 0));
        Steps.fire(x, 19, 3000, 50, 9);
        x.fire(3000, 50, 10);
        Check.due("a good firing ends the low count", 0, x.status(1));
        Steps.fire(x, 19, 3000, 50, 9);
        Check.due("so the sensor stays sound", 0, x.status(0));
        KnockControl y = new KnockControl();
        y.set(6, 0);
        Steps.fire(y, 25, 3000, 50, 0);
        Check.due("no energy is below 0", 0, y.status(0));
        Check.due("all are good", 25, y.status(2));
        y.set(6, 1000);
        Steps.fire(y, 20, 3000, 50, 999);
        Check.due("all below 1000 are low", 1, y.status(0));
    }

    private static void faultySensor() {
        KnockControl x = new KnockControl();
        x.fire(3000, 50, 20000);
        Steps.makeFaulty(x);
        int quiet = x.cylinder(1, 2);
        int level = x.cylinder(1, 1);
        Check.due("next()", 1, x.next());
        Check.due("fire with all energy", 2, x.fire(3000, 50, 20000));
        Check.due("its fast retard", 0, x.cylinder(1, 0));
        Check.due("its quiet count", quiet, x.cylinder(1, 2));
        Check.due("its level", level, x.cylinder(1, 1));
        Check.due("its knocks", 0, x.cylinder(1, 4));
        Check.due("the steady count goes on", 21, x.status(3));
        Check.due("firings()", 22, x.firings());
        x.teach(2, 2, 5);
        x.set(4, 3);
        x.set(5, 1);
        Steps.fire(x, 8, 3000, 50, 100);
        Check.due("nothing is learned", 5, x.learned(2, 2));
        Check.due("the spread waits", 0, x.cylinder(1, 0));
        Check.due("fixed and learned retard", 65, x.angle(0, 3000, 50, false));
        x.set(7, 100);
        x.set(3, 101);
        Check.due("at most the limit", 101, x.angle(0, 3000, 50, false));
    }

    private static void steadyCount() {
        KnockControl x = new KnockControl();
        x.fire(500, 0, 100);
        Check.due("first firing", 0, x.status(3));
        x.fire(1499, 24, 100);
        Check.due("the same cell", 1, x.status(3));
        x.fire(500, 0, 20000);
        Check.due("the same cell again", 2, x.status(3));
        x.fire(1500, 0, 100);
        Check.due("another row", 0, x.status(3));
        x.fire(1500, 0, 100);
        x.fire(1500, 25, 100);
        Check.due("another column", 0, x.status(3));
    }

    private static void learnMore() {
        KnockControl x = new KnockControl();
        x.set(5, 5);
        x.set(4, 200);
        x.teach(2, 3, 99);
        x.set(1, 21);
        // Firing 0 to 3 give 21 each; the steady count is 3 then.
        Steps.fire(x, 4, 3000, 80, 551);
        x.fire(3000, 80, 200);
        Check.due("steady count", 4, x.status(3));
        Check.due("not steady yet", 99, x.learned(2, 3));
        Steps.fire(x, 3, 3000, 80, 200);
        Check.due("steady, but not divisible", 99, x.learned(2, 3));
        x.fire(3000, 80, 200);
        Check.due("learned", 100, x.learned(2, 3));
        for (int c = 0; c < 4; c++) {
            Check.due("fast retard of " + c, 20, x.cylinder(c, 0));
        }
        Check.due("events()", 5, x.events());
        Check.due("kind", 3, x.event(4, 0));
        Check.due("number", 11, x.event(4, 1));
        Check.due("firing", 8, x.event(4, 2));
        KnockControl y = new KnockControl();
        y.set(5, 1);
        y.set(4, 200);
        y.set(1, 50);
        y.begin(2);
        y.fire(3000, 80, 551);
        y.set(1, 1);
        y.teach(2, 3, 100);
        Steps.fire(y, 2, 3000, 80, 551);
        Check.due("never above 100", 100, y.learned(2, 3));
        Check.due("and the fast retard stays", 50, y.cylinder(0, 0));
        Steps.fire(y, 2, 4000, 80, 200);
        Check.due("steady count 1", 0, y.learned(3, 3));
        y.fire(4000, 80, 200);
        Check.due("(50 + 1) / 2 is above 20", 1, y.learned(3, 3));
        Check.due("a fast retard falls to 0", 0, y.cylinder(1, 0));
        y.fire(4000, 80, 200);
        y.fire(4000, 80, 200);
        Check.due("learned again", 2, y.learned(3, 3));
        Check.due("a fast retard of 0 stays", 0, y.cylinder(1, 0));
        Check.due("the others fall", 48, y.cylinder(0, 0));
        meanOf20();
    }

    /** A mean of 20.75 is rounded down to 20, which is not above 20. */
    private static void meanOf20() {
        KnockControl x = new KnockControl();
        x.set(5, 1);
        x.set(1, 21);
        Steps.fire(x, 3, 3000, 80, 551);
        x.set(1, 20);
        Steps.fire(x, 1, 3000, 80, 551);
        x.fire(3000, 80, 200);
        Check.due("mean of 20.75", 0, x.learned(2, 3));
        x.set(1, 1);
        Steps.fire(x, 3, 3000, 80, 551);
        Steps.fire(x, 1, 3000, 80, 200);
        Check.due("mean of 21.25", 1, x.learned(2, 3));
    }

    private static void learnLess() {
        KnockControl x = new KnockControl();
        x.set(5, 4);
        x.teach(2, 3, 2);
        Steps.fire(x, 4, 3000, 80, 200);
        Check.due("not steady yet", 2, x.learned(2, 3));
        x.fire(3000, 80, 200);
        Check.due("forgotten", 1, x.learned(2, 3));
        Check.due("kind", 4, x.event(0, 0));
        Check.due("number", 11, x.event(0, 1));
        Check.due("firing", 4, x.event(0, 2));
        Steps.fire(x, 8, 3000, 80, 200);
        Check.due("never below 0", 0, x.learned(2, 3));
        Check.due("no event for it", 2, x.events());
        KnockControl y = new KnockControl();
        y.set(5, 1);
        y.set(1, 5);
        y.teach(2, 3, 2);
        Steps.fire(y, 4, 3000, 80, 551);
        y.fire(3000, 80, 200);
        Check.due("a mean of 5 is not below 5", 2, y.learned(2, 3));
        y.set(2, 1);
        Steps.fire(y, 4, 3000, 80, 200);
        Check.due("a mean of 4", 1, y.learned(2, 3));
        Check.due("the fast retards stay", 4, y.cylinder(0, 0));
    }

    private static void fireRefused() {
        KnockControl x = new KnockControl();
        Check.due("fire(500, 0, 0)", 0, x.fire(500, 0, 0));
        Check.due("fire(7000, 100, 20000)", 1, x.fire(7000, 100, 20000));
        Check.refusedArgument(x, "fire(499, 0, 0)", () -> x.fire(499, 0, 0));
        Check.refusedArgument(x, "fire(7001, 0, 0)", () -> x.fire(7001, 0, 0));
        Check.refusedArgument(x, "fire(500, -1, 0)", () -> x.fire(500, -1, 0));
        Check.refusedArgument(x, "fire(500, 101, 0)", () -> x.fire(500, 101, 0));
        Check.refusedArgument(x, "fire(500, 0, -1)", () -> x.fire(500, 0, -1));
        Check.refusedArgument(x, "fire(500, 0, 20001)", () -> x.fire(500, 0, 20001));
    }

    // Promise 9
    private static void drive() {
        KnockControl x = new KnockControl();
        Check.due("drive of no firing", 0, x.drive(3000, 80, 95, 0));
        Check.due("no firing", 0, x.firings());
        Check.due("is kept all the same", 0, x.undo());
        // s = 1103527590, s / 65536 = 16838, modulo 40 it is 38. With no
        // knock the energy is 3000 / 20 + 80 + 38 = 268.
        Check.due("drive of one firing", 0, x.drive(3000, 80, 110, 1));
        Check.due("its level", 51200 + (256 * 268 - 51200) / 16, x.cylinder(0, 1));
        Check.due("drive is undoable", 0, x.undo());
        Check.due("undone", 51200, x.cylinder(0, 1));
        Check.due("s, too", 1, x.seed(1));
        // Advance 100 + 60 - 80 = 80; knock limit 150 + 50 - 120 - 120 = -40.
        // k = 120 and the energy 268 + 1440 = 1708 knocks: 10 * 1158 / 550 = 21.
        Check.due("drive with a poor fuel", 1, x.drive(3000, 80, 80, 1));
        Check.due("its fast retard", 31, x.cylinder(0, 0));
        x.breakSensor(true);
        x.seed(1);
        Check.due("drive with a broken sensor", 0, x.drive(3000, 80, 80, 1000));
        Check.due("makes it faulty", 1, x.status(0));
        Check.due("low count", 1000, x.status(1));
        Check.due("firings()", 1001, x.firings());
        Check.due("next()", 1, x.next());
        long s = 1;
        for (int i = 0; i < 1000; i++) {
            s = (1103515245L * s + 12345L) % 2147483648L;
        }
        Check.due("s changes all the same", s, x.seed(1));
    }

    private static void driveKnocks() {
        KnockControl x = new KnockControl();
        int knocked = x.drive(3000, 80, 85, 400);
        int counted = 0;
        for (int c = 0; c < 4; c++) {
            counted += x.cylinder(c, 4);
        }
        Check.due("the knocks are counted", counted, knocked);
        Check.due("there are some, but not all", true, knocked > 0 && knocked < 400);
        KnockControl y = new KnockControl();
        int sum = 0;
        for (int i = 0; i < 100; i++) {
            sum += y.drive(3000, 80, 85, 4);
        }
        Check.due("in one or in many drives", knocked, sum);
        y.undo();
        y.undo();
        y.undo();
        y.undo();
        y.drive(3000, 80, 85, 16);
        Check.due("the same state", true, x.rateBits() == y.rateBits() && x.cylinder(0, 1) == y.cylinder(0, 1));
        // k = advance - limit with the retard of the very firing: 80 - 20 and no k.
        KnockControl z = new KnockControl();
        z.teach(2, 3, 100);
        z.set(3, 200);
        // Limit -40 + 60 = 20 less: octane 80 gives -40; advance 80 - 100 = -20, k = 20, 268 + 240.
        z.drive(3000, 80, 80, 1);
        Check.due("level with a learned retard", 51200 + (256 * 508 - 51200) / 16, z.cylinder(0, 1));
    }

    private static void driveRefused() {
        KnockControl x = new KnockControl();
        Check.due("drive(500, 0, 80, 0)", 0, x.drive(500, 0, 80, 0));
        Check.due("drive(7000, 100, 110, 1)", 0, x.drive(7000, 100, 110, 1));
        Check.refusedArgument(x, "drive(499, 0, 95, 1)", () -> x.drive(499, 0, 95, 1));
        Check.refusedArgument(x, "drive(7001, 0, 95, 1)", () -> x.drive(7001, 0, 95, 1));
        Check.refusedArgument(x, "drive(500, -1, 95, 1)", () -> x.drive(500, -1, 95, 1));
        Check.refusedArgument(x, "drive(500, 101, 95, 1)", () -> x.drive(500, 101, 95, 1));
        Check.refusedArgument(x, "drive(500, 0, 79, 1)", () -> x.drive(500, 0, 79, 1));
        Check.refusedArgument(x, "drive(500, 0, 111, 1)", () -> x.drive(500, 0, 111, 1));
        Check.refusedArgument(x, "drive(500, 0, 95, -1)", () -> x.drive(500, 0, 95, -1));
        Check.refusedArgument(x, "drive(500, 0, 95, 1001)", () -> x.drive(500, 0, 95, 1001));
    }

    // Promises 10 and 11
    private static void counting() {
        for (int cylinders = 2; cylinders <= 8; cylinders++) {
            KnockControl x = new KnockControl();
            x.begin(cylinders);
            for (int i = 0; i < 20; i++) {
                Check.due("firings() of " + cylinders, i, x.firings());
                Check.due("next() of " + cylinders + " after " + i, i % cylinders, x.next());
                x.fire(3000, 80, 300);
            }
            x.drive(3000, 80, 95, 31);
            Check.due("firings() after drive", 51, x.firings());
            Check.due("next() after drive", 51 % cylinders, x.next());
            x.undo();
            Check.due("firings() after undo", 20, x.firings());
            Check.due("next() after undo", 20 % cylinders, x.next());
        }
    }
}
