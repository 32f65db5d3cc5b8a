/** The sentences of the description on the engine, the state of the control, the settings and the retards. */
final class EngineEdges {
    private EngineEdges() {
    }

    static void all() {
        calls();
        Doc.open("Description");
        wholeNumbers();
        roundedDown();
        cylinders();
        arguments();
        cells();
        stateOfCylinders();
        learnedRetards();
        otherState();
        settings();
        retard();
        retardWithFaultySensor();
        advance();
        threshold();
    }

    private static void calls() {
        Doc.open("What it is");
        Doc.says("An object is used for at most 512 calls after it has been made;");
        KnockControl x = new KnockControl();
        x.set(6, 0);
        for (int i = 0; i < 508; i++) {
            x.drive(500, 0, 110, 1000);
        }
        Check.due("firings() after 508000", 508000, x.firings());
        Check.due("good count after 508000", 508000, x.status(2));
        // This is the call 512.
        Check.due("steady count after 508000", 507999, x.status(3));
    }

    private static void wholeNumbers() {
        Doc.says("All retards and advances are whole numbers (tenths of a degree).");
        KnockControl x = new KnockControl();
        // A share of 10 * 50 / 550 = 0.9 is none.
        x.fire(3000, 80, 600);
        Check.due("no part of a retard", 10, x.cylinder(0, 0));
        // 100 + 10.98
        Check.due("no part of an advance", 110, x.angle(1, 549, 0, true));
    }

    private static void roundedDown() {
        Doc.says("a / b means division rounded down (also for negative a; b is above 0).");
        KnockControl x = new KnockControl();
        x.begin(2);
        x.set(6, 0);
        int[] due = {48000, 45000, 42187, 39550};
        for (int level : due) {
            x.fire(3000, 80, 0);
            x.fire(3000, 80, 200);
            // -45000 / 16 is -2812.5 and -42187 / 16 is -2636.7: -2813 and -2637
            Check.due("a level that falls", level, x.cylinder(0, 1));
        }
        x.breakSensor(true);
        x.drive(3000, 80, 95, 1000);
        Check.due("-1 / 16 is -1, so that a level falls to 0", 0, x.cylinder(0, 1));
        Check.due("the other one, too", 0, x.cylinder(1, 1));
    }

    private static void cylinders() {
        Doc.says("Engine. There are 2 to 8 cylinders, initially 4, numbered from 0;");
        Check.due("initially", 4, new KnockControl().value(8));
        Edges.range("begin", 2, 8, Edges.ARGUMENT, (x, n) -> x.begin(n));
        for (int n = 2; n <= 8; n++) {
            KnockControl x = new KnockControl();
            int many = n;
            x.begin(many);
            Check.due("the first cylinder", 51200, x.cylinder(0, 1));
            Check.due("the last cylinder", 51200, x.cylinder(many - 1, 1));
            Check.refusedPlace(x, "one too many", () -> x.cylinder(many, 1));
        }
        Doc.says("they fire one after the other, again and again, cylinder 0 first.");
        for (int n = 2; n <= 8; n++) {
            KnockControl x = new KnockControl();
            x.begin(n);
            for (int i = 0; i < 3 * n + 1; i++) {
                Check.due("next() of " + n + " after " + i, i % n, x.next());
                x.fire(3000, 80, 200);
                for (int c = 0; c < n; c++) {
                    // Every firing is quiet: the quiet count tells how often a cylinder has fired.
                    Check.due("firings of " + c + " after " + i, (i + n - c) / n, x.cylinder(c, 2));
                }
            }
        }
    }

    private static void arguments() {
        Doc.says("A firing has a speed, 500 to 7000, a load, 0 to 100, and an energy, 0 to 20000.");
        Edges.range("speed of fire", 500, 7000, Edges.ARGUMENT, (x, v) -> x.fire(v, 0, 0));
        Edges.range("load of fire", 0, 100, Edges.ARGUMENT, (x, v) -> x.fire(500, v, 0));
        Edges.range("energy of fire", 0, 20000, Edges.ARGUMENT, (x, v) -> x.fire(500, 0, v));
        KnockControl x = new KnockControl();
        Check.due("the least of all", 0, x.fire(500, 0, 0));
        Check.due("the most of all", 1, x.fire(7000, 100, 20000));
    }

    private static void cells() {
        Doc.says("Its row is (speed - 500) / 1000, at most 5, its column load / 25, at most 3;");
        for (int speed = 500; speed <= 7000; speed += speed % 500 == 0 ? 499 : 1) {
            KnockControl x = new KnockControl();
            int row = speed < 1500 ? 0 : speed < 2500 ? 1 : speed < 3500 ? 2 : speed < 4500 ? 3 : speed < 5500 ? 4 : 5;
            for (int load = 0; load <= 100; load++) {
                int column = load < 25 ? 0 : load < 50 ? 1 : load < 75 ? 2 : 3;
                x.fire(speed, load, 200);
                Check.due("cell of " + speed + ", " + load, 4 * row + column, x.status(4));
            }
        }
        Doc.says("both together are its cell (there are 6 rows and 4 columns).");
        for (int cell = 0; cell < 24; cell++) {
            KnockControl one = new KnockControl();
            one.teach(cell / 4, cell % 4, 33);
            int found = 0;
            for (int row = 0; row < 6; row++) {
                for (int column = 0; column < 4; column++) {
                    found += one.angle(0, 500 + 1000 * row, 25 * column, false) == 33 ? 1 : 0;
                }
            }
            Check.due("one cell is cell " + cell, 1, found);
            Check.due("that one", 33, one.angle(0, 1499 + 1000 * (cell / 4), 24 + 25 * (cell % 4), false));
        }
        KnockControl none = new KnockControl();
        Check.refusedPlace(none, "a seventh row", () -> none.learned(6, 0));
        Check.refusedPlace(none, "a fifth column", () -> none.learned(0, 4));
    }

    private static void stateOfCylinders() {
        Doc.says("State of the control. Each cylinder has a fast retard, initially 0, "
            + "a level in 256ths, initially 51200 (200 times 256), and a quiet count, initially 0.");
        KnockControl x = new KnockControl();
        for (int c = 0; c < 4; c++) {
            Check.due("fast retard of " + c, 0, x.cylinder(c, 0));
            Check.due("level of " + c, 51200, x.cylinder(c, 1));
            Check.due("quiet count of " + c, 0, x.cylinder(c, 2));
        }
        // A level of 200 stays with an energy of 200, in 256ths.
        x.fire(3000, 80, 200);
        Check.due("level after an energy of 200", 51200, x.cylinder(0, 1));
        x.fire(3000, 80, 201);
        Check.due("level after an energy of 201", 51216, x.cylinder(1, 1));
    }

    private static void learnedRetards() {
        Doc.says("Each cell has a learned retard, 0 to 100, initially 0.");
        for (int cell = 0; cell < 24; cell++) {
            int row = cell / 4;
            int column = cell % 4;
            Check.due("initially, in cell " + cell, 0, new KnockControl().learned(row, column));
            Edges.range("learned retard of cell " + cell, 0, 100, Edges.ARGUMENT,
                (x, v) -> x.teach(row, column, v));
        }
    }

    private static void otherState() {
        Doc.says("There are a steady count, the cell of the latest firing (none at first), "
            + "a low count and a good count, both initially 0, and the sensor is faulty or not, initially not.");
        KnockControl x = new KnockControl();
        Check.due("no cell at first", KnockControl.NONE, x.status(4));
        Check.due("low count", 0, x.status(1));
        Check.due("good count", 0, x.status(2));
        Check.due("not faulty", 0, x.status(0));
        x.fire(500, 0, 200);
        Check.due("none is not the first cell", 0, x.status(3));
        Check.due("the first cell", 0, x.status(4));
    }

    private static void settings() {
        setting("Settings. 0 the gain, 16 to 128, initially 40;", 0, 16, 128, 40);
        setting("1 the step, 1 to 50, initially 10;", 1, 1, 50, 10);
        setting("2 the return count, 1 to 200, initially 20;", 2, 1, 200, 20);
        setting("3 the limit, 20 to 200, initially 150;", 3, 20, 200, 150);
        setting("4 the spread, 0 to 200, initially 40;", 4, 0, 200, 40);
        setting("5 the steady time, 1 to 500, initially 30;", 5, 1, 500, 30);
        setting("6 the smallest energy, 0 to 1000, initially 10;", 6, 0, 1000, 10);
        setting("7 the fixed retard, 0 to 100, initially 60.", 7, 0, 100, 60);
    }

    private static void setting(String sentence, int what, int least, int most, int first) {
        Doc.says(sentence);
        Check.due("initially", first, new KnockControl().value(what));
        Edges.range("set(" + what + ", ..)", least, most, Edges.ARGUMENT, (x, v) -> {
            int before = x.set(what, v);
            Check.due("the new value", v, x.value(what));
            return before;
        });
    }

    /** A control whose cylinder 0 has the fast retard 40; the cell of 3000 and 80 has a learned one of 60. */
    private static KnockControl retarded() {
        KnockControl x = new KnockControl();
        x.fire(3000, 80, 20000);
        x.teach(2, 3, 60);
        return x;
    }

    private static void retard() {
        Doc.says("The retard of a cylinder in a cell is its fast retard plus the learned retard of the cell,");
        KnockControl x = retarded();
        Check.due("40 and 60", 100, x.angle(0, 3000, 80, false));
        Check.due("0 and 60", 60, x.angle(1, 3000, 80, false));
        Check.due("40 in a cell without one", 40, x.angle(0, 3000, 74, false));
        x.set(3, 101);
        Check.due("100 with a limit of 101", 100, x.angle(0, 3000, 80, false));
        x.set(3, 100);
        Check.due("100 with a limit of 100", 100, x.angle(0, 3000, 80, false));
        x.set(3, 99);
        Check.due("100 with a limit of 99", 99, x.angle(0, 3000, 80, false));
        x.set(3, 39);
        Check.due("a fast retard above the limit", 39, x.angle(0, 3000, 74, false));
        x.teach(2, 3, 100);
        x.set(3, 20);
        Check.due("a learned retard above the limit", 20, x.angle(1, 3000, 80, false));
    }

    private static void retardWithFaultySensor() {
        Doc.says("or, if the sensor is faulty, the fixed retard plus the learned retard of the cell, "
            + "but at most the limit.");
        KnockControl x = retarded();
        Steps.fire(x, 19, 3000, 80, 9);
        Check.due("not faulty yet", 100, x.angle(0, 3000, 80, false));
        x.fire(3000, 80, 9);
        for (int c = 0; c < 4; c++) {
            Check.due("60 and 60", 120, x.angle(c, 3000, 80, false));
        }
        Check.due("60 in a cell without one", 60, x.angle(0, 3000, 74, false));
        x.set(7, 0);
        Check.due("no fixed retard", 60, x.angle(0, 3000, 80, false));
        x.set(7, 100);
        x.set(3, 161);
        Check.due("160 with a limit of 161", 160, x.angle(0, 3000, 80, false));
        x.set(3, 160);
        Check.due("160 with a limit of 160", 160, x.angle(0, 3000, 80, false));
        x.set(3, 159);
        Check.due("160 with a limit of 159", 159, x.angle(0, 3000, 80, false));
        x.set(3, 20);
        Check.due("a fixed retard above the limit", 20, x.angle(0, 500, 0, false));
        Steps.fire(x, 50, 3000, 80, 10);
        x.set(3, 150);
        Check.due("sound again", x.cylinder(0, 0) + 60, x.angle(0, 3000, 80, false));
    }

    private static void advance() {
        Doc.says("The basic advance for a speed and a load is 100 + speed / 50 - load; "
            + "the advance of a cylinder is the basic advance minus its retard in the cell.");
        KnockControl x = retarded();
        Check.due("the least basic advance", 10, x.angle(1, 500, 100, true));
        Check.due("the greatest one", 240, x.angle(1, 7000, 0, true));
        Check.due("549 / 50 is 10", 110, x.angle(1, 549, 0, true));
        Check.due("550 / 50 is 11", 111, x.angle(1, 550, 0, true));
        Check.due("less 40 and 60", 80 - 100, x.angle(0, 3000, 80, true));
        x.set(3, 50);
        Check.due("less a limit of 50", 30, x.angle(0, 3000, 80, true));
        x.set(3, 200);
        x.set(7, 100);
        x.teach(0, 3, 100);
        Steps.makeFaulty(x);
        Check.due("less than 0", 10 - 200, x.angle(0, 500, 100, true));
    }

    private static void threshold() {
        Doc.says("The threshold of a cylinder is level * gain / 4096 + 50.");
        KnockControl x = new KnockControl();
        Check.due("51200 * 40 / 4096 is 500", 550, x.cylinder(0, 3));
        x.fire(3000, 80, 550);
        // 56800 * 40 / 4096 is 554.7
        Check.due("rounded down", 604, x.cylinder(0, 3));
        x.set(0, 16);
        Check.due("with the least gain", 56800 / 256 + 50, x.cylinder(0, 3));
        x.set(0, 128);
        Check.due("with the greatest gain", 56800 / 32 + 50, x.cylinder(0, 3));
        KnockControl none = new KnockControl();
        none.set(6, 0);
        none.breakSensor(true);
        none.drive(3000, 80, 95, 1000);
        Check.due("of the level 0", 50, none.cylinder(3, 3));
        greatestThreshold();
    }

    private static void greatestThreshold() {
        KnockControl x = new KnockControl();
        x.begin(2);
        x.set(0, 128);
        for (int i = 0; i < 16; i++) {
            Check.due("a firing at the threshold", 0, x.fire(7000, 100, Math.min(20000, x.cylinder(x.next(), 3))));
        }
        Steps.write(x, "7000 100 20000;7000 100 20000;7000 100 20000;7000 100 20000;");
        Steps.write(x, "7000 100 20000;7000 100 20000;7000 100 20000;7000 100 20000;");
        for (int i = 0; i < 100; i++) {
            x.replay();
        }
        Check.due("no firing has knocked", 0, x.rateBits());
        // 15 below 256 * 20000 the level does not rise any more: 15 / 16 is 0.
        Check.due("the greatest level", 5119985, x.cylinder(0, 1));
        // 5119985 / 32 is 159999.5
        Check.due("the greatest threshold", 160049, x.cylinder(0, 3));
    }
}
