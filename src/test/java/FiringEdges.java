/** The sentences of the description on the four steps of a firing. */
final class FiringEdges {
    private FiringEdges() {
    }

    static void all() {
        Doc.open("Description");
        Doc.says("A firing of a cylinder c with an energy is treated like this:");
        firingOfNext();
        smallestEnergy();
        faulty();
        soundAgain();
        steadyCount();
        knock();
        retardOfKnock();
        limitOfKnock();
        quietCountOfKnock();
        level();
        returnCount();
        returnOfFastRetard();
        spread();
        spreadComesLast();
        notWithFaultySensor();
        steadyTime();
        steadyTimeAndCylinders();
        mean();
        learnMore();
        learnLess();
    }

    private static void firingOfNext() {
        KnockControl x = new KnockControl();
        Steps.fire(x, 2, 3000, 80, 200);
        x.fire(3000, 80, 550);
        int[] quiet = {1, 1, 1, 0};
        int[] level = {51200, 51200, 56800, 51200};
        for (int c = 0; c < 4; c++) {
            Check.due("quiet count of " + c, quiet[c], x.cylinder(c, 2));
            Check.due("level of " + c, level[c], x.cylinder(c, 1));
        }
    }

    // ---- step 1

    private static void smallestEnergy() {
        Doc.says("1. If the energy is below the smallest energy, the low count increases by 1, and the good "
            + "count becomes 0; otherwise the good count increases by 1, and the low count becomes 0.");
        int[] smallest = {1, 10, 200, 1000};
        for (int energy : smallest) {
            KnockControl x = new KnockControl();
            x.set(6, energy);
            x.fire(3000, 80, energy - 1);
            dueCounts("just below " + energy, x, 1, 0);
            x.fire(3000, 80, 0);
            dueCounts("without energy", x, 2, 0);
            x.fire(3000, 80, energy);
            dueCounts("just " + energy, x, 0, 1);
            x.fire(3000, 80, 20000);
            dueCounts("with all energy", x, 0, 2);
            x.fire(3000, 80, energy - 1);
            dueCounts("just below again", x, 1, 0);
        }
        KnockControl none = new KnockControl();
        none.set(6, 0);
        Steps.fire(none, 30, 3000, 80, 0);
        dueCounts("no energy is below 0", none, 0, 30);
    }

    private static void dueCounts(String when, KnockControl x, int low, int good) {
        Check.due("low count, " + when, low, x.status(1));
        Check.due("good count, " + when, good, x.status(2));
    }

    private static void faulty() {
        Doc.says("If the sensor is not faulty and the low count is 20 or more, it becomes faulty;");
        KnockControl x = new KnockControl();
        Steps.fire(x, 19, 3000, 80, 9);
        dueCounts("19", x, 19, 0);
        Check.due("not faulty with 19", 0, x.status(0));
        Check.due("the twentieth is not heard", 2, x.fire(3000, 80, 9));
        dueCounts("20", x, 20, 0);
        Check.due("faulty with 20", 1, x.status(0));
        Check.due("its event", Edges.told(1, 0, 19), Edges.latest(x));
        x.fire(3000, 80, 9);
        dueCounts("21", x, 21, 0);
        Check.due("faulty with 21", 1, x.status(0));
        Check.due("no further event", 1, x.events());
        KnockControl broken = new KnockControl();
        Steps.fire(broken, 19, 3000, 80, 9);
        broken.fire(3000, 80, 10);
        Steps.fire(broken, 19, 3000, 80, 9);
        Check.due("19 and 19 are not 20", 0, broken.status(0));
        broken.set(6, 0);
        broken.fire(3000, 80, 0);
        Check.due("none below 0", 0, broken.status(0));
        KnockControl anew = new KnockControl();
        Steps.fire(anew, 19, 3000, 80, 9);
        anew.begin(4);
        anew.fire(3000, 80, 9);
        Check.due("begin makes the low count 0", 0, anew.status(0));
    }

    private static void soundAgain() {
        Doc.says("if it is faulty and the good count is 50 or more, it is not faulty any more.");
        KnockControl x = new KnockControl();
        Steps.fire(x, 60, 3000, 80, 200);
        Check.due("60 good ones of a sound sensor", 0, x.events());
        Steps.makeFaulty(x);
        Steps.fire(x, 49, 3000, 80, 10);
        dueCounts("49", x, 0, 49);
        Check.due("faulty with 49", 1, x.status(0));
        x.fire(3000, 80, 9);
        dueCounts("49 and a low one", x, 1, 0);
        Steps.fire(x, 49, 3000, 80, 10);
        Check.due("49 and 49 are not 50", 1, x.status(0));
        Check.due("the fiftieth is heard", 0, x.fire(3000, 80, 10));
        Check.due("sound with 50", 0, x.status(0));
        Check.due("its event", Edges.told(2, 0, 60 + 20 + 49 + 1 + 49), Edges.latest(x));
        x.fire(3000, 80, 10);
        dueCounts("51", x, 0, 51);
        Check.due("no further event", 2, x.events());
        Steps.fire(x, 19, 3000, 80, 9);
        Check.due("sound with 19 once more", 0, x.status(0));
        x.fire(3000, 80, 9);
        Check.due("faulty with 20 once more", 1, x.status(0));
        Steps.fire(x, 49, 3000, 80, 10);
        Check.due("the fiftieth may knock", 1, x.fire(3000, 80, 20000));
    }

    // ---- step 2

    private static void steadyCount() {
        Doc.says("2. If the cell is that of the latest firing, the steady count increases by 1, "
            + "otherwise it becomes 0.");
        KnockControl x = new KnockControl();
        x.fire(500, 0, 200);
        Check.due("the first firing", 0, x.status(3));
        x.fire(1499, 24, 20000);
        Check.due("the same cell", 1, x.status(3));
        Steps.fire(x, 20, 600, 1, 0);
        Check.due("the same cell with a faulty sensor", 21, x.status(3));
        x.fire(1500, 24, 200);
        Check.due("the next row", 0, x.status(3));
        x.fire(1500, 24, 200);
        x.fire(1500, 25, 200);
        Check.due("the next column", 0, x.status(3));
        x.fire(2499, 49, 200);
        Check.due("the same cell then", 1, x.status(3));
        x.fire(500, 0, 200);
        x.fire(2499, 49, 200);
        Check.due("the cell before the latest one", 0, x.status(3));
        x.fire(2499, 49, 200);
        x.begin(4);
        x.fire(2499, 49, 200);
        Check.due("the first firing after begin", 0, x.status(3));
    }

    // ---- step 3, a knock

    private static void knock() {
        Doc.says("3. If the sensor is not faulty: the firing knocks if its energy is greater "
            + "than the threshold of c.");
        int[] gains = {16, 40, 41, 128};
        for (int gain : gains) {
            KnockControl x = new KnockControl();
            x.set(0, gain);
            int threshold = 51200 * gain / 4096 + 50;
            Check.due("below the threshold of gain " + gain, 0, x.fire(3000, 80, threshold - 1));
            Check.due("at the threshold", 0, x.fire(3000, 80, threshold));
            Check.due("above the threshold", 1, x.fire(3000, 80, threshold + 1));
            Check.due("knocks of the three", 0 + 0 + 1, x.cylinder(0, 4) + x.cylinder(1, 4) + x.cylinder(2, 4));
        }
        KnockControl least = leastThreshold();
        Check.due("50 with a threshold of 50", 0, least.fire(3000, 80, 50));
        Check.due("51 with a threshold of 50", 1, least.fire(3000, 80, 51));
        KnockControl own = new KnockControl();
        own.begin(2);
        own.fire(3000, 80, 550);
        Check.due("each has a threshold of its own", 1, own.fire(3000, 80, 604));
        Check.due("and so has the other", 0, own.fire(3000, 80, 604));
    }

    /** Two cylinders with the level 0, the next one is cylinder 0. */
    private static KnockControl leastThreshold() {
        KnockControl x = new KnockControl();
        x.begin(2);
        x.set(6, 0);
        x.breakSensor(true);
        x.drive(3000, 80, 95, 1000);
        return x;
    }

    private static void retardOfKnock() {
        Doc.says("If it knocks, the fast retard of c increases by step + the smaller one of 3 * step "
            + "and step * (energy - threshold) / threshold,");
        int[] energies = {551, 1099, 1100, 1649, 1650, 2199, 2200, 2750, 20000};
        int[] withStep1 = {1, 1, 2, 2, 3, 3, 4, 4, 4};
        int[] withStep50 = {50, 99, 100, 149, 150, 199, 200, 200, 200};
        for (int i = 0; i < energies.length; i++) {
            Check.due("step 1, " + energies[i], withStep1[i], fastAfter(1, energies[i]));
            Check.due("step 50, " + energies[i], withStep50[i], fastAfter(50, energies[i]));
        }
        Check.due("a share of 0.9", 50, fastAfter(50, 560));
        Check.due("a share of 1", 51, fastAfter(50, 561));
        int[] small = {51, 99, 100, 199, 200, 20000};
        int[] withLeast = {1, 1, 2, 3, 4, 4};
        for (int i = 0; i < small.length; i++) {
            KnockControl x = leastThreshold();
            x.set(1, 1);
            x.fire(3000, 80, small[i]);
            Check.due("threshold 50, " + small[i], withLeast[i], x.cylinder(0, 0));
        }
        KnockControl twice = new KnockControl();
        twice.begin(2);
        Steps.fire(twice, 4, 3000, 80, 561);
        // 10 and 10 * 11 / 550 = 0
        Check.due("it increases again", 20, twice.cylinder(0, 0));
    }

    private static int fastAfter(int step, int energy) {
        KnockControl x = new KnockControl();
        x.set(1, step);
        x.set(3, 200);
        x.fire(3000, 80, energy);
        return x.cylinder(0, 0);
    }

    private static void limitOfKnock() {
        Doc.says("but to (limit - learned retard of the cell) at most, and not below what it was;");
        // The knock asks for 40.
        Check.due("limit 41", 40, fastWithLimit(41, 0, 0));
        Check.due("limit 40", 40, fastWithLimit(40, 0, 0));
        Check.due("limit 39", 39, fastWithLimit(39, 0, 0));
        Check.due("limit 50 less 10", 40, fastWithLimit(50, 10, 0));
        Check.due("limit 50 less 11", 39, fastWithLimit(50, 11, 0));
        Check.due("limit 100 less 100", 0, fastWithLimit(100, 100, 0));
        Check.due("limit 99 less 100", 0, fastWithLimit(99, 100, 0));
        Check.due("limit 20 less 100", 0, fastWithLimit(20, 100, 0));
        // The fast retard is 30 before.
        Check.due("limit 31, was 30", 31, fastWithLimit(31, 0, 30));
        Check.due("limit 30, was 30", 30, fastWithLimit(30, 0, 30));
        Check.due("limit 29, was 30", 30, fastWithLimit(29, 0, 30));
        Check.due("limit 50 less 19, was 30", 31, fastWithLimit(50, 19, 30));
        Check.due("limit 50 less 21, was 30", 30, fastWithLimit(50, 21, 30));
        Check.due("limit 20 less 100, was 30", 30, fastWithLimit(20, 100, 30));
        Check.due("limit 70, was 30", 70, fastWithLimit(70, 0, 30));
        KnockControl x = new KnockControl();
        x.teach(2, 2, 100);
        x.teach(3, 3, 100);
        x.set(3, 100);
        x.fire(3000, 80, 20000);
        Check.due("other cells do not matter", 40, x.cylinder(0, 0));
    }

    private static int fastWithLimit(int limit, int learned, int before) {
        KnockControl x = new KnockControl();
        x.begin(2);
        x.set(1, Math.max(1, before));
        Steps.fire(x, before > 0 ? 1 : 0, 3000, 80, 551);
        Edges.untilNext(x, 0);
        x.set(1, 10);
        x.set(3, limit);
        x.teach(2, 3, learned);
        Check.due("fast retard before", before, x.cylinder(0, 0));
        Check.due("it knocks", 1, x.fire(3000, 80, 20000));
        return x.cylinder(0, 0);
    }

    private static void quietCountOfKnock() {
        Doc.says("its quiet count becomes 0.");
        KnockControl x = new KnockControl();
        x.begin(2);
        Steps.fire(x, 6, 3000, 80, 200);
        Check.due("quiet count before", 3, x.cylinder(0, 2));
        x.fire(3000, 80, 551);
        Check.due("quiet count then", 0, x.cylinder(0, 2));
        Check.due("of the other", 3, x.cylinder(1, 2));
        Check.due("the level stays", 51200, x.cylinder(0, 1));
        x.set(3, 20);
        x.teach(2, 3, 100);
        Edges.untilNext(x, 0);
        x.fire(3000, 80, 200);
        Edges.untilNext(x, 0);
        x.fire(3000, 80, 20000);
        Check.due("of a knock that retards no more", 0, x.cylinder(0, 2));
    }

    // ---- step 3, a quiet firing

    private static void level() {
        Doc.says("Otherwise its level increases by (256 * energy - level) / 16,");
        int[] energies = {0, 199, 200, 201, 550};
        int[] levels = {48000, 51184, 51200, 51216, 56800};
        for (int i = 0; i < energies.length; i++) {
            KnockControl x = new KnockControl();
            x.fire(3000, 80, energies[i]);
            Check.due("level after " + energies[i], levels[i], x.cylinder(0, 1));
            Check.due("level of the next", 51200, x.cylinder(1, 1));
        }
        // (41984 - 42187) / 16 is -12.7, (42240 - 42187) / 16 is 3.3
        Check.due("level after 164", 42187 - 13, levelFrom42187(164));
        Check.due("level after 165", 42187 + 3, levelFrom42187(165));
    }

    private static int levelFrom42187(int energy) {
        KnockControl x = new KnockControl();
        x.begin(2);
        x.set(6, 0);
        Steps.fire(x, 6, 3000, 80, 0);
        Check.due("level before", 42187, x.cylinder(0, 1));
        x.fire(3000, 80, energy);
        return x.cylinder(0, 1);
    }

    private static void returnCount() {
        Doc.says("and its quiet count increases by 1; if it is the return count or more then, it becomes 0,");
        int[] counts = {1, 2, 20, 200};
        for (int count : counts) {
            KnockControl x = tenOfTwo(count);
            quietFirings(x, count - 1);
            Check.due("quiet count before " + count, count - 1, x.cylinder(0, 2));
            Check.due("fast retard before " + count, 10, x.cylinder(0, 0));
            quietFirings(x, 1);
            Check.due("quiet count at " + count, 0, x.cylinder(0, 2));
            Check.due("fast retard at " + count, 9, x.cylinder(0, 0));
            quietFirings(x, count);
            Check.due("quiet count at twice " + count, 0, x.cylinder(0, 2));
            Check.due("fast retard at twice " + count, 8, x.cylinder(0, 0));
        }
        KnockControl more = tenOfTwo(10);
        quietFirings(more, 7);
        more.set(2, 3);
        quietFirings(more, 1);
        Check.due("a quiet count of 8 is more than 3", 0, more.cylinder(0, 2));
        Check.due("and returns once", 9, more.cylinder(0, 0));
    }

    /** Two cylinders, of which cylinder 0 has a fast retard of 10 and is the next one. */
    private static KnockControl tenOfTwo(int returnCount) {
        KnockControl x = new KnockControl();
        x.begin(2);
        x.set(2, returnCount);
        x.set(6, 0);
        x.fire(3000, 80, 551);
        x.fire(3000, 80, 200);
        return x;
    }

    /** So many quiet firings of each of two cylinders. */
    private static void quietFirings(KnockControl x, int count) {
        boolean before = x.breakSensor(true);
        x.drive(3000, 80, 95, 2 * count);
        x.breakSensor(before);
    }

    private static void returnOfFastRetard() {
        Doc.says("and the fast retard of c, if above 0, decreases by 1.");
        KnockControl x = tenOfTwo(1);
        for (int fast = 9; fast >= 0; fast--) {
            quietFirings(x, 1);
            Check.due("one less", fast, x.cylinder(0, 0));
            Check.due("the other has none", 0, x.cylinder(1, 0));
        }
        quietFirings(x, 3);
        Check.due("never below 0", 0, x.cylinder(0, 0));
        Check.due("the quiet count becomes 0 all the same", 0, x.cylinder(0, 2));
        KnockControl other = tenOfTwo(1);
        other.fire(3000, 80, 200);
        other.fire(3000, 80, 551);
        Edges.dueFast("the others stay", other, 9, 10);
    }

    // ---- step 3, the spread

    private static void spread() {
        Doc.says("After that, let m be the greatest fast retard of all cylinders: "
            + "each fast retard below m - spread becomes m - spread.");
        int[] spreads = {0, 1, 39, 40, 41, 200};
        int[] due = {40, 39, 1, 0, 0, 0};
        for (int i = 0; i < spreads.length; i++) {
            KnockControl x = new KnockControl();
            x.set(4, spreads[i]);
            x.fire(3000, 80, 20000);
            Edges.dueFast("spread " + spreads[i], x, 40, due[i], due[i], due[i]);
        }
        KnockControl x = new KnockControl();
        x.begin(8);
        x.set(4, 200);
        int[] steps = {10, 24, 25, 26, 39, 40, 1};
        for (int step : steps) {
            x.set(1, step);
            x.fire(3000, 80, 551);
        }
        x.set(4, 15);
        x.fire(3000, 80, 200);
        Edges.dueFast("just below, at and above 40 - 15", x, 25, 25, 25, 26, 39, 40, 25, 25);
        for (int most = 0; most < 8; most++) {
            KnockControl one = new KnockControl();
            one.begin(8);
            one.set(4, 30);
            Steps.fire(one, most, 3000, 80, 200);
            one.fire(3000, 80, 20000);
            for (int c = 0; c < 8; c++) {
                Check.due("from " + most + " to " + c, c == most ? 40 : 10, one.cylinder(c, 0));
            }
        }
        KnockControl later = new KnockControl();
        later.fire(3000, 80, 20000);
        later.set(4, 0);
        Edges.dueFast("set alone lifts none", later, 40, 0, 0, 0);
        later.fire(3000, 80, 200);
        Edges.dueFast("a quiet firing lifts them", later, 40, 40, 40, 40);
        later.set(3, 20);
        later.fire(3000, 80, 200);
        Edges.dueFast("the limit does not matter", later, 40, 40, 40, 40);
    }

    private static void spreadComesLast() {
        KnockControl x = new KnockControl();
        x.set(4, 15);
        x.fire(3000, 80, 20000);
        x.set(2, 1);
        x.fire(3000, 80, 200);
        Edges.dueFast("a return below m - spread is taken back", x, 40, 25, 25, 25);
        Edges.untilNext(x, 0);
        x.fire(3000, 80, 200);
        Edges.dueFast("m returns", x, 39, 25, 25, 25);
        x.fire(3000, 80, 200);
        Edges.dueFast("and a return follows", x, 39, 24, 25, 25);
        x.fire(3000, 80, 200);
        x.fire(3000, 80, 20000);
        Edges.dueFast("a knock makes a new m", x, 50, 50, 50, 65);
    }

    private static void notWithFaultySensor() {
        KnockControl x = new KnockControl();
        x.fire(3000, 80, 20000);
        x.teach(2, 3, 7);
        Steps.fire(x, 20, 3000, 80, 9);
        x.set(2, 1);
        x.set(4, 0);
        x.set(5, 1);
        for (int i = 0; i < 8; i++) {
            int c = x.next();
            int level = x.cylinder(c, 1);
            int quiet = x.cylinder(c, 2);
            Check.due("a firing that is not heard", 2, x.fire(3000, 80, i < 4 ? 20000 : 200));
            Check.due("its level", level, x.cylinder(c, 1));
            Check.due("its quiet count", quiet, x.cylinder(c, 2));
            Check.due("its knocks", c == 0 ? 1 : 0, x.cylinder(c, 4));
        }
        Edges.dueFast("no knock, return or spread", x, 40, 0, 0, 0);
        Check.due("nothing is learned", 7, x.learned(2, 3));
        Check.due("no event but one knock and the fault", 2, x.events());
    }

    // ---- step 4

    /** All cylinders have a fast retard of 21; the steady count is one below their number. */
    private static KnockControl allWith21(int cylinders, int steadyTime) {
        KnockControl x = new KnockControl();
        x.begin(cylinders);
        x.set(1, 21);
        x.set(5, steadyTime);
        Steps.fire(x, cylinders, 3000, 80, 551);
        Check.due("steady count before", cylinders - 1, x.status(3));
        Check.due("nothing learned before", 0, x.learned(2, 3));
        return x;
    }

    private static void steadyTime() {
        Doc.says("4. If the sensor is not faulty, the steady count is at least the steady time");
        int[] steadyTimes = {1, 3, 4, 5, 7, 8, 9, 500};
        int[] due = {4, 4, 4, 8, 8, 8, 12, 500};
        for (int i = 0; i < steadyTimes.length; i++) {
            KnockControl x = allWith21(4, steadyTimes[i]);
            x.set(2, 200);
            Steps.fire(x, due[i] - 4, 3000, 80, 200);
            Check.due("steady time " + steadyTimes[i] + ", before " + due[i], 0, x.learned(2, 3));
            x.fire(3000, 80, 200);
            Check.due("steady count", due[i], x.status(3));
            Check.due("steady time " + steadyTimes[i] + ", at " + due[i], 1, x.learned(2, 3));
        }
        KnockControl first = new KnockControl();
        first.set(5, 1);
        first.teach(2, 3, 5);
        first.fire(3000, 80, 200);
        Check.due("not with a steady count of 0", 5, first.learned(2, 3));
        notLearnedWithFaultySensor(21, 8);
        notLearnedWithFaultySensor(1, 6);
    }

    /** A learned retard of 7, and a mean that makes it another one as soon as the sensor is sound. */
    private static void notLearnedWithFaultySensor(int fast, int learned) {
        KnockControl x = new KnockControl();
        x.teach(2, 3, 7);
        x.set(1, fast);
        x.set(5, 500);
        Steps.fire(x, 4, 3000, 80, 551);
        Steps.fire(x, 20, 3000, 80, 9);
        x.set(5, 1);
        Steps.fire(x, 49, 3000, 80, 10);
        Check.due("steady count", 72, x.status(3));
        Check.due("49 firings that are not heard", 7, x.learned(2, 3));
        x.undo();
        x.fire(3000, 80, 9);
        Steps.fire(x, 49, 3000, 80, 10);
        Check.due("49 more", 7, x.learned(2, 3));
        Edges.dueFast("not heard", x, fast, fast, fast, fast);
        int steady = x.status(3);
        x.fire(3000, 80, 10);
        Check.due("sound again, with a steady count of", steady + 1, x.status(3));
        Steps.fire(x, 3 - steady % 4, 3000, 80, 10);
        Check.due("learned when heard", learned, x.learned(2, 3));
    }

    private static void steadyTimeAndCylinders() {
        Doc.says("and is divisible by the number of cylinders:");
        for (int cylinders = 2; cylinders <= 8; cylinders++) {
            KnockControl x = allWith21(cylinders, 1);
            x.set(1, 1);
            x.set(4, 200);
            for (int steady = cylinders; steady <= 3 * cylinders; steady++) {
                x.fire(3000, 80, 551);
                Check.due("steady count", steady, x.status(3));
                Check.due("learned with " + cylinders + " at " + steady, steady / cylinders, x.learned(2, 3));
            }
        }
    }

    /** The fast retards of four cylinders; what is learned at the steady count 4, from a learned retard on. */
    private static int learnedFrom(int learned, int... fast) {
        KnockControl x = new KnockControl();
        x.set(4, 200);
        x.set(5, 4);
        x.teach(2, 3, learned);
        for (int wanted : fast) {
            x.set(1, Math.max(1, wanted));
            x.fire(3000, 80, wanted > 0 ? 551 : 200);
        }
        Edges.dueFast("before", x, fast);
        x.fire(3000, 80, 200);
        return x.learned(2, 3) - learned;
    }

    private static void mean() {
        Doc.says("let a be (the sum of all fast retards) / (the number of cylinders).");
        Check.due("84 / 4", 1, learnedFrom(50, 21, 21, 21, 21));
        Check.due("83 / 4 is 20", 0, learnedFrom(50, 21, 21, 21, 20));
        Check.due("of all cylinders, the first", 1, learnedFrom(50, 42, 14, 14, 14));
        Check.due("of all cylinders, the last", 1, learnedFrom(50, 14, 14, 14, 42));
        Check.due("20 / 4", 0, learnedFrom(50, 5, 5, 5, 5));
        Check.due("19 / 4 is 4", -1, learnedFrom(50, 5, 5, 5, 4));
        KnockControl x = new KnockControl();
        x.set(4, 0);
        x.set(5, 4);
        x.set(1, 6);
        Steps.fire(x, 3, 500, 0, 200);
        x.teach(2, 3, 9);
        Steps.fire(x, 4, 3000, 80, 200);
        x.fire(3000, 80, 551);
        Check.due("after the spread: 24 / 4", 9, x.learned(2, 3));
    }

    private static void learnMore() {
        Doc.says("If a is above 20 and the learned retard of the cell is below 100, it increases by 1, "
            + "and each fast retard above 0 decreases by 1.");
        Check.due("a is 21, from 0", 1, learnedFrom(0, 21, 21, 21, 21));
        Check.due("a is 20, from 0", 0, learnedFrom(0, 20, 20, 20, 20));
        Check.due("a is 21, from 98", 1, learnedFrom(98, 21, 21, 21, 21));
        Check.due("a is 21, from 99", 1, learnedFrom(99, 21, 21, 21, 21));
        Check.due("a is 21, from 100", 0, learnedFrom(100, 21, 21, 21, 21));
        KnockControl x = new KnockControl();
        x.set(4, 200);
        x.set(5, 4);
        int[] steps = {50, 1, 50};
        for (int step : steps) {
            x.set(1, step);
            x.fire(3000, 80, 551);
        }
        Steps.fire(x, 2, 3000, 80, 200);
        Edges.dueFast("those above 0 fall", x, 49, 0, 49, 0);
        Check.due("its event", Edges.told(3, 11, 4), Edges.latest(x));
        Check.due("other cells stay", 0, x.learned(2, 2) + x.learned(3, 3) + x.learned(1, 3));
        KnockControl full = new KnockControl();
        full.set(3, 200);
        full.teach(2, 3, 100);
        full.set(5, 4);
        full.set(1, 21);
        Steps.fire(full, 4, 3000, 80, 551);
        full.fire(3000, 80, 200);
        Edges.dueFast("with 100 none falls", full, 21, 21, 21, 21);
        Check.due("and there is no event", Edges.told(0, 3, 3), Edges.latest(full));
    }

    private static void learnLess() {
        Doc.says("Otherwise, if a is below 5 and the learned retard of the cell is above 0, it decreases by 1.");
        Check.due("a is 5, from 100", 0, learnedFrom(100, 5, 5, 5, 5));
        Check.due("a is 4, from 100", -1, learnedFrom(100, 4, 4, 4, 4));
        Check.due("a is 0, from 2", -1, learnedFrom(2, 0, 0, 0, 0));
        Check.due("a is 4, from 1", -1, learnedFrom(1, 4, 4, 4, 4));
        Check.due("a is 4, from 0", 0, learnedFrom(0, 4, 4, 4, 4));
        Check.due("a is 12, from 50", 0, learnedFrom(50, 12, 12, 12, 12));
        KnockControl x = new KnockControl();
        x.set(5, 4);
        x.set(1, 3);
        x.teach(2, 3, 1);
        Steps.fire(x, 4, 3000, 80, 551);
        x.fire(3000, 80, 200);
        Edges.dueFast("the fast retards stay", x, 3, 3, 3, 3);
        Check.due("its event", Edges.told(4, 11, 4), Edges.latest(x));
        int events = x.events();
        Steps.fire(x, 8, 3000, 80, 200);
        Check.due("none below 0", 0, x.learned(2, 3));
        Check.due("and no event", events, x.events());
    }
}
