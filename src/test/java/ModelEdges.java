/** The sentences of the description on the model and the log. */
final class ModelEdges {
    private ModelEdges() {
    }

    static void all() {
        Doc.open("Description");
        octaneNumbers();
        knockLimit();
        energy();
        energyAboveTheLimit();
        numberS();
        numberR();
        brokenSensor();
        sensorAtFirst();
        latestEvents();
        kindsOfEvents();
        firingsOfEvents();
    }

    private static void octaneNumbers() {
        Doc.says("Model. For a fuel with an octane number from 80 to 110,");
        Edges.range("octane of drive", 80, 110, Edges.ARGUMENT, (x, v) -> x.drive(3000, 80, v, 1));
    }

    private static void knockLimit() {
        Doc.says("the knock limit for a speed and a load is "
            + "150 + speed / 60 - load * 3 / 2 + (octane - 95) * 8.");
        KnockControl x = new KnockControl();
        int none = KnockControl.NONE;
        Check.due("the least of all", 150 + 8 - 150 - 120, x.limit(none, 500, 100, 80));
        Check.due("the greatest of all", 150 + 116 + 120, x.limit(none, 7000, 0, 110));
        Check.due("539 / 60 is 8", 158, x.limit(none, 539, 0, 95));
        Check.due("540 / 60 is 9", 159, x.limit(none, 540, 0, 95));
        Check.due("1 * 3 / 2 is 1", 157, x.limit(none, 539, 1, 95));
        Check.due("2 * 3 / 2 is 3", 155, x.limit(none, 539, 2, 95));
        Check.due("99 * 3 / 2 is 148", 10, x.limit(none, 539, 99, 95));
        Check.due("octane 94", 150, x.limit(none, 539, 0, 94));
        Check.due("octane 96", 166, x.limit(none, 539, 0, 96));
    }

    /** The level of a cylinder that had the initial level and then a quiet firing. */
    private static int levelAfter(int energy) {
        return 51200 + 16 * energy - 3200;
    }

    private static void energy() {
        Doc.says("A model firing of a cylinder has the energy speed / 20 + load + r + 12 * k,");
        // With s = 1 at first, r is 38; with octane 110 k is 0.
        int[][] due = {{500, 0, 25 + 38}, {519, 0, 25 + 38}, {520, 1, 26 + 1 + 38}, {7000, 100, 350 + 100 + 38}};
        for (int[] one : due) {
            KnockControl x = new KnockControl();
            x.drive(one[0], one[1], 110, 1);
            Check.due("level after " + one[2], levelAfter(one[2]), x.cylinder(0, 1));
        }
        // The energies reach 350 + 100 + 39 + 12 * 144 = 2217 at most: k is greatest with 7000, 100 and 80.
        Doc.says("but at most 20000,");
        KnockControl x = new KnockControl();
        x.set(0, 128);
        Check.due("k is 144", 144, x.limit(0, 7000, 100, 80));
        Check.due("2216 knocks", 1, x.drive(7000, 100, 80, 1));
        x.undo();
        x.set(1, 50);
        x.drive(7000, 100, 80, 1);
        // 50 * (2216 - 1650) / 1650 is 17
        Check.due("its fast retard", 67, x.cylinder(0, 0));
    }

    private static void energyAboveTheLimit() {
        Doc.says("where k is its advance minus the knock limit, if that is above 0, otherwise 0,");
        // Octane 94: the advance is 80 less the learned retard, the limit 72.
        int[] learned = {6, 7, 8, 9, 100};
        int[] k = {2, 1, 0, 0, 0};
        for (int i = 0; i < learned.length; i++) {
            KnockControl x = new KnockControl();
            x.teach(2, 3, learned[i]);
            x.drive(3000, 80, 94, 1);
            Check.due("level with k " + k[i], levelAfter(268 + 12 * k[i]), x.cylinder(0, 1));
        }
        ownRetard();
        retardBeforeTheFiring();
    }

    private static void ownRetard() {
        KnockControl x = new KnockControl();
        x.set(1, 8);
        x.fire(3000, 80, 551);
        Edges.untilNext(x, 0);
        x.fire(3000, 80, 200);
        Edges.untilNext(x, 0);
        // Cylinder 0 has a fast retard of 8, so that its k is 0; cylinder 1 has none, and its k is 8.
        x.drive(3000, 80, 94, 1);
        Check.due("level with the retard of cylinder 0", levelAfter(268), x.cylinder(0, 1));
        x.seed(1);
        x.drive(3000, 80, 94, 1);
        Check.due("level with that of cylinder 1", levelAfter(268 + 96), x.cylinder(1, 1));
    }

    /** The firing that makes the sensor sound still has the energy of the fixed retard, 8: its k is 0. */
    private static void retardBeforeTheFiring() {
        KnockControl x = new KnockControl();
        x.set(7, 8);
        Steps.makeFaulty(x);
        x.drive(3000, 80, 94, 49);
        Check.due("still faulty", 1, x.status(0));
        int next = x.next();
        int level = x.cylinder(next, 1);
        Check.due("s has changed 49 times", 49, timesFromOne(x.seed(1)));
        x.drive(3000, 80, 94, 1);
        Check.due("sound", 0, x.status(0));
        Check.due("its level", level + Math.floorDiv(256 * 268 - level, 16), x.cylinder(next, 1));
    }

    private static long following(long s) {
        return (1103515245L * s + 12345L) & 0x7fffffffL;
    }

    private static int timesFromOne(long wanted) {
        long s = 1;
        for (int i = 0; i <= 1000; i++) {
            if (s == wanted) {
                return i;
            }
            s = following(s);
        }
        return -1;
    }

    private static void numberS() {
        Doc.says("and r is a pseudo-random number: there is a number s, initially 1; "
            + "before each model firing s becomes (1103515245 * s + 12345) modulo 2147483648,");
        Check.due("initially", 1, new KnockControl().seed(0));
        int[] seeds = {0, 1, 2, 3, 65535, 65536, 999998, 999999};
        for (int seed : seeds) {
            KnockControl x = new KnockControl();
            x.seed(seed);
            long s = seed;
            for (int i = 0; i < 40; i++) {
                x.drive(3000, 80, 110, 1);
                s = following(s);
                Check.due("s after " + seed, s, x.seed(0));
                x.undo();
            }
            Check.due("firings()", 40, x.firings());
        }
        KnockControl x = new KnockControl();
        x.fire(3000, 80, 300);
        Check.due("other firings leave s", 1, x.seed(0));
    }

    private static void numberR() {
        Doc.says("and r is (s / 65536) modulo 40.");
        boolean[] seen = new boolean[40];
        for (int seed = 0; seed < 400; seed++) {
            KnockControl x = new KnockControl();
            x.seed(seed);
            x.drive(3000, 80, 110, 1);
            int r = (int) (following(seed) / 65536 % 40);
            seen[r] = true;
            Check.due("level with r " + r, levelAfter(230 + r), x.cylinder(0, 1));
        }
        for (int r = 0; r < 40; r++) {
            Check.due("an r of " + r + " was looked at", true, seen[r]);
        }
    }

    private static void brokenSensor() {
        Doc.says("With a broken sensor the energy is 0 (and s changes all the same).");
        KnockControl x = new KnockControl();
        x.breakSensor(true);
        Check.due("no knock", 0, x.drive(7000, 100, 80, 1));
        Check.due("level after 0", levelAfter(0), x.cylinder(0, 1));
        Check.due("s", following(1), x.seed(1));
        x.set(6, 0);
        x.drive(7000, 100, 80, 1);
        Check.due("0 is not below 0", 1, x.status(2));
        x.set(6, 1);
        x.drive(7000, 100, 80, 1);
        Check.due("0 is below 1", 1, x.status(1));
        x.drive(7000, 100, 80, 18);
        Check.due("19 are not 20", 0, x.status(0));
        x.drive(7000, 100, 80, 1);
        Check.due("20 make it faulty", 1, x.status(0));
        x.breakSensor(false);
        x.drive(7000, 100, 80, 1);
        Check.due("mended, it has energy again", 1, x.status(2));
    }

    private static void sensorAtFirst() {
        Doc.says("The sensor of the model is broken or not, initially not.");
        Check.due("initially", false, new KnockControl().breakSensor(true));
        KnockControl x = new KnockControl();
        x.drive(3000, 80, 110, 1);
        Check.due("it hears", 1, x.status(2));
        Check.due("the sensor of the control is another one", 0, x.status(0));
    }

    // ---- log

    private static void latestEvents() {
        Doc.says("Log. The latest 60 events are kept, the oldest first:");
        KnockControl x = new KnockControl();
        x.begin(3);
        x.set(5, 500);
        int[] counts = {0, 1, 2, 59, 60, 61, 119, 120, 121, 200};
        int fired = 0;
        for (int count : counts) {
            Steps.fire(x, count - fired, 3000, 80, 20000);
            fired = count;
            int size = Math.min(60, count);
            Check.due("events() after " + count, size, x.events());
            if (size > 0) {
                Check.due("the oldest after " + count, count - size, x.event(0, 2));
                Check.due("its cylinder", (count - size) % 3, x.event(0, 1));
                Check.due("the latest after " + count, count - 1, x.event(size - 1, 2));
                Check.due("its cylinder", (count - 1) % 3, x.event(size - 1, 1));
            }
        }
        for (int i = 0; i < 60; i++) {
            Check.due("one after the other", 140 + i, x.event(i, 2));
        }
        x.fire(3000, 80, 200);
        Check.due("a quiet firing drops none", 140, x.event(0, 2));
        Steps.fire(x, 20, 3000, 80, 0);
        Check.due("another kind drops one, too", 141, x.event(0, 2));
        Check.due("and is the latest", Edges.told(1, 0, 220), Edges.latest(x));
    }

    private static void kindsOfEvents() {
        Doc.says("0 knock (number: the cylinder), 1 sensor faulty, 2 sensor sound again (number: 0), "
            + "3 learned retard increased, 4 learned retard decreased (number: 4 * row + column).");
        for (int c = 0; c < 8; c++) {
            KnockControl x = new KnockControl();
            x.begin(8);
            Steps.fire(x, c, 3000, 80, 200);
            Check.due("no event of a quiet firing", -1, Edges.latest(x));
            x.fire(3000, 80, 551);
            Check.due("knock of " + c, Edges.told(0, c, c), Edges.latest(x));
        }
        KnockControl sensor = new KnockControl();
        sensor.fire(3000, 80, 200);
        Steps.fire(sensor, 20, 3000, 80, 0);
        Check.due("faulty", Edges.told(1, 0, 20), Edges.latest(sensor));
        Steps.fire(sensor, 50, 3000, 80, 200);
        Check.due("sound", Edges.told(2, 0, 70), Edges.latest(sensor));
        for (int cell = 0; cell < 24; cell++) {
            int speed = 1000 + 1000 * (cell / 4);
            int load = 25 * (cell % 4);
            KnockControl x = new KnockControl();
            x.set(5, 1);
            x.set(1, 21);
            Steps.fire(x, 4, speed, load, 551);
            x.fire(speed, load, 200);
            Check.due("more in cell " + cell, Edges.told(3, cell, 4), Edges.latest(x));
            x.begin(4);
            x.teach(cell / 4, cell % 4, 1);
            Steps.fire(x, 5, speed, load, 200);
            Check.due("less in cell " + cell, Edges.told(4, cell, 4), Edges.latest(x));
        }
        bothEventsOfAFiring();
    }

    /** A firing may make two events; they stand in the order of the steps. */
    private static void bothEventsOfAFiring() {
        KnockControl x = new KnockControl();
        x.set(1, 21);
        x.set(5, 1);
        Steps.fire(x, 4, 3000, 80, 551);
        x.fire(3000, 80, 551);
        Check.due("events() of five knocks", 6, x.events());
        Check.due("first the knock", 0, x.event(4, 0));
        Check.due("of firing 4", 4, x.event(4, 2));
        Check.due("then what is learned", Edges.told(3, 11, 4), Edges.latest(x));
        Steps.makeFaulty(x);
        Steps.fire(x, 49, 3000, 80, 200);
        int before = x.events();
        x.fire(3000, 80, 20000);
        Check.due("sound, and a knock", before + 2, x.events());
        Check.due("first the sensor", 2, x.event(before, 0));
        Check.due("then the knock", 0, x.event(before + 1, 0));
        Check.due("of the same firing", x.event(before, 2), x.event(before + 1, 2));
    }

    private static void firingsOfEvents() {
        Doc.says("Each event has the number of its firing, from 0 on, counting all firings.");
        KnockControl x = new KnockControl();
        x.fire(3000, 80, 551);
        Check.due("the first firing", 0, x.event(0, 2));
        Steps.fire(x, 5, 3000, 80, 200);
        x.drive(3000, 80, 110, 7);
        Steps.write(x, "3000 80 200;3000 80 20000;");
        x.replay();
        Check.due("firings of all methods", 14, x.event(1, 2));
        Steps.fire(x, 20, 3000, 80, 0);
        Steps.fire(x, 10, 3000, 80, 200);
        x.undo();
        Steps.fire(x, 41, 3000, 80, 200);
        Check.due("those that are not heard, and not those undone", 15 + 20 + 9 + 40, x.event(3, 2));
        x.begin(4);
        x.fire(3000, 80, 200);
        x.fire(3000, 80, 551);
        Check.due("from 0 again after begin", 1, x.event(0, 2));
    }
}
