/** The sentences of promises 1 to 15. */
final class CallEdges {
    private CallEdges() {
    }

    static void all() {
        newObject();
        begin();
        beginAnew();
        set();
        value();
        teach();
        breakSensor();
        seed();
        fire();
        drive();
        firings();
        next();
        cylinder();
        cylinderKnocks();
        learned();
        angle();
        status();
    }

    private static void newObject() {
        Doc.open("Promise 1");
        Doc.says("Creates a control for 4 cylinders with the initial values.");
        KnockControl used = new KnockControl();
        used.begin(8);
        used.set(0, 128);
        used.drive(3000, 80, 80, 200);
        used.breakSensor(true);
        KnockControl x = new KnockControl();
        int[] values = {40, 10, 20, 150, 40, 30, 10, 60, 4};
        for (int what = 0; what <= 8; what++) {
            Check.due("value(" + what + ")", values[what], x.value(what));
        }
        dueInitial(x, 4);
        Check.refusedState(x, "undo()", x::undo);
        Check.due("text", 0, x.clearText());
        Check.due("the sensor of the model", false, x.breakSensor(false));
        Check.due("s", 1, x.seed(1));
    }

    /** The state of the control is the initial one, the log is empty, no firing has been counted. */
    private static void dueInitial(KnockControl x, int cylinders) {
        for (int c = 0; c < cylinders; c++) {
            Check.due("fast retard of " + c, 0, x.cylinder(c, 0));
            Check.due("level of " + c, 51200, x.cylinder(c, 1));
            Check.due("quiet count of " + c, 0, x.cylinder(c, 2));
            Check.due("knocks of " + c, 0, x.cylinder(c, 4));
        }
        Check.refusedPlace(x, "one cylinder too many", () -> x.cylinder(cylinders, 0));
        for (int cell = 0; cell < 24; cell++) {
            Check.due("learned in cell " + cell, 0, x.learned(cell / 4, cell % 4));
        }
        int[] status = {0, 0, 0, 0, KnockControl.NONE};
        for (int what = 0; what <= 4; what++) {
            Check.due("status(" + what + ")", status[what], x.status(what));
        }
        Check.due("events()", 0, x.events());
        Check.due("firings()", 0, x.firings());
        Check.due("next()", 0, x.next());
        Check.due("rateBits()", 0, x.rateBits());
    }

    private static void begin() {
        Doc.open("Promise 2");
        Doc.says("Undoable.");
        Edges.undoable("begin(4)", (x, v) -> x.begin(4));
        Edges.undoable("begin(2)", (x, v) -> x.begin(2));
        Edges.undoable("begin(8)", (x, v) -> x.begin(8));
        Doc.says("`cylinders`: 2 to 8");
        Edges.range("begin", 2, 8, Edges.ARGUMENT, (x, v) -> {
            int firings = x.begin(v);
            Check.due("value(8)", v, x.value(8));
            return firings;
        });
        Doc.says("Returns the number of firings that have been counted so far.");
        KnockControl x = new KnockControl();
        Check.due("begin(3) of none", 0, x.begin(3));
        x.fire(3000, 80, 300);
        Check.due("begin(3) of one", 1, x.begin(3));
        Check.due("begin(3) at once", 0, x.begin(3));
        x.drive(3000, 80, 95, 1000);
        Check.due("begin(8) of 1000", 1000, x.begin(8));
        x.undo();
        Check.due("begin(8) undone and made again", 1000, x.begin(8));
        Doc.says("Throws `IllegalArgumentException` if cylinders is out of range");
        Check.refusedArgument(x, "begin(1)", () -> x.begin(1));
        Check.refusedArgument(x, "begin(9)", () -> x.begin(9));
        Check.refusedArgument(x, "begin(0)", () -> x.begin(0));
    }

    private static void beginAnew() {
        Doc.says("Begins anew: the state of the control is the initial one, the log is empty, "
            + "and no firing has been counted;");
        for (int cylinders = 2; cylinders <= 8; cylinders++) {
            KnockControl x = Edges.rich();
            x.begin(cylinders);
            dueInitial(x, cylinders);
            x.drive(3000, 80, 80, 200);
            Steps.makeFaulty(x);
            x.begin(10 - cylinders);
            dueInitial(x, 10 - cylinders);
        }
        Doc.says("the settings, s and the sensor of the model stay.");
        KnockControl x = new KnockControl();
        int[] values = {41, 11, 21, 151, 41, 31, 11, 61};
        for (int what = 0; what < 8; what++) {
            x.set(what, values[what]);
        }
        x.seed(4711);
        x.breakSensor(true);
        Steps.write(x, "500 0 0");
        x.begin(5);
        for (int what = 0; what < 8; what++) {
            Check.due("value(" + what + ")", values[what], x.value(what));
        }
        Check.due("s", 4711, x.seed(3));
        Check.due("the sensor of the model", true, x.breakSensor(false));
        Check.due("the text, too", 7, x.clearText());
    }

    private static void set() {
        Doc.open("Promise 3");
        Doc.says("Sets a value.");
        for (int what = 0; what < 8; what++) {
            KnockControl x = new KnockControl();
            x.set(what, 20);
            for (int other = 0; other < 8; other++) {
                int due = other == what ? 20 : new KnockControl().value(other);
                Check.due("value(" + other + ") after set(" + what + ", 20)", due, x.value(other));
            }
        }
        setChangesNothingElse();
        Doc.says("Undoable.");
        for (int what = 0; what < 8; what++) {
            int place = what;
            Edges.undoable("set(" + what + ", 50)", (x, v) -> x.set(place, 50));
        }
        Doc.says("`what`: 0 to 7");
        Edges.range("what of set", 0, 7, Edges.ARGUMENT, (x, v) -> x.set(v, 20));
        Doc.says("`value`: the new value, in its range");
        int[] least = {16, 1, 1, 20, 0, 1, 0, 0};
        int[] most = {128, 50, 200, 200, 200, 500, 1000, 100};
        for (int what = 0; what < 8; what++) {
            int place = what;
            Edges.range("value of set " + what, least[what], most[what], Edges.ARGUMENT, (x, v) -> x.set(place, v));
        }
        Doc.says("Returns the previous value.");
        KnockControl x = new KnockControl();
        Check.due("set(3, 200)", 150, x.set(3, 200));
        Check.due("set(3, 20)", 200, x.set(3, 20));
        Check.due("set(3, 20) again", 20, x.set(3, 20));
        x.undo();
        x.undo();
        Check.due("set(3, 30) after undo()", 200, x.set(3, 30));
        Doc.says("Throws `IllegalArgumentException` if what or value is out of range");
        Check.refusedArgument(x, "set(8, 4)", () -> x.set(8, 4));
        Check.refusedArgument(x, "set(-1, 40)", () -> x.set(-1, 40));
        Check.refusedArgument(x, "set(8, -1)", () -> x.set(8, -1));
    }

    private static void setChangesNothingElse() {
        long s = Edges.richS();
        // The thresholds are counted from the gain.
        int[] places = {0, Edges.THRESHOLDS[0], Edges.THRESHOLDS[1], Edges.THRESHOLDS[2], Edges.THRESHOLDS[3]};
        Edges.changesOnly("set(0, 50)", (x, v) -> x.set(0, 50), places);
        for (int what = 1; what < 8; what++) {
            int place = what;
            Edges.changesOnly("set(" + what + ", 50)", (x, v) -> x.set(place, 50), what);
        }
        for (int what = 0; what < 8; what++) {
            int place = what;
            Edges.leaves("set(" + what + ", 50)", (x, v) -> x.set(place, 50), 12, s, 0, 4);
        }
    }

    private static void value() {
        Doc.open("Promise 4");
        Doc.says("Returns a value.");
        Edges.onlyLooks("value(8)", (x, v) -> x.value(8));
        Doc.says("`what`: 0 to 7 as for set(); 8 the number of cylinders");
        Edges.range("what of value", 0, 8, Edges.ARGUMENT, (x, v) -> x.value(v));
        Doc.says("Returns the value.");
        KnockControl x = new KnockControl();
        int[] values = {40, 10, 20, 150, 40, 30, 10, 60, 4};
        for (int what = 0; what <= 8; what++) {
            Check.due("value(" + what + ")", values[what], x.value(what));
        }
        x.begin(8);
        Check.due("value(8) after begin(8)", 8, x.value(8));
        x.begin(2);
        Check.due("value(8) after begin(2)", 2, x.value(8));
        Doc.says("Throws `IllegalArgumentException` if what is out of range");
        Check.refusedArgument(x, "value(-1)", () -> x.value(-1));
        Check.refusedArgument(x, "value(9)", () -> x.value(9));
    }

    private static void teach() {
        Doc.open("Promise 5");
        Doc.says("Sets a learned retard.");
        KnockControl x = new KnockControl();
        for (int cell = 0; cell < 24; cell++) {
            x.teach(cell / 4, cell % 4, 4 * cell + 3);
        }
        for (int cell = 0; cell < 24; cell++) {
            Check.due("learned in cell " + cell, 4 * cell + 3, x.learned(cell / 4, cell % 4));
        }
        Check.due("no event", 0, x.events());
        Edges.changesOnly("teach(3, 1, 100)", (y, v) -> y.teach(3, 1, 100), Edges.LEARNED + 13);
        // The cell of the latest firing and of its steady count.
        Edges.changesOnly("teach(5, 0, 100)", (y, v) -> y.teach(5, 0, 100), Edges.LEARNED + 20);
        Edges.leaves("teach(5, 0, 100)", (y, v) -> y.teach(5, 0, 100), 12, Edges.richS(), 0, 4);
        Doc.says("Undoable.");
        Edges.undoable("teach(5, 3, 100)", (y, v) -> y.teach(5, 3, 100));
        Doc.says("`row`: 0 to 5");
        Edges.range("row of teach", 0, 5, Edges.PLACE, (y, v) -> y.teach(v, 3, 1));
        Doc.says("`column`: 0 to 3");
        Edges.range("column of teach", 0, 3, Edges.PLACE, (y, v) -> y.teach(2, v, 1));
        Doc.says("`retard`: 0 to 100");
        Edges.range("retard of teach", 0, 100, Edges.ARGUMENT, (y, v) -> y.teach(5, 3, v));
        Doc.says("Returns the previous learned retard.");
        Check.due("teach(5, 3, 0)", 95, x.teach(5, 3, 0));
        Check.due("teach(5, 3, 100)", 0, x.teach(5, 3, 100));
        Check.due("teach(5, 3, 100) again", 100, x.teach(5, 3, 100));
        Doc.says("Throws `IndexOutOfBoundsException` if there is no such cell");
        Check.refusedPlace(x, "teach(6, 0, 1)", () -> x.teach(6, 0, 1));
        Check.refusedPlace(x, "teach(0, 4, 1)", () -> x.teach(0, 4, 1));
        Check.refusedPlace(x, "teach(-1, 4, 1)", () -> x.teach(-1, 4, 1));
        Check.refusedPlace(x, "teach(1, -1, 1)", () -> x.teach(1, -1, 1));
        Check.refusedPlace(x, "teach(6, -1, 1)", () -> x.teach(6, -1, 1));
        Doc.says("Throws `IllegalArgumentException` if retard is out of range");
        Check.refusedArgument(x, "teach(0, 0, -1)", () -> x.teach(0, 0, -1));
        Check.refusedArgument(x, "teach(5, 3, 101)", () -> x.teach(5, 3, 101));
    }

    private static void breakSensor() {
        Doc.open("Promise 6");
        Doc.says("Makes the sensor of the model broken or not.");
        KnockControl x = new KnockControl();
        x.breakSensor(true);
        x.drive(3000, 80, 80, 1);
        Check.due("broken: no energy", 1, x.status(1));
        x.breakSensor(false);
        x.drive(3000, 80, 80, 1);
        Check.due("not broken: energy", 1, x.status(2));
        long s = Edges.richS();
        Edges.changesOnly("breakSensor(true)", (y, v) -> y.breakSensor(true) ? 1 : 0);
        Edges.leaves("breakSensor(true)", (y, v) -> y.breakSensor(true) ? 1 : 0, 12, s, 1, 4);
        Edges.leaves("breakSensor(false)", (y, v) -> y.breakSensor(false) ? 1 : 0, 12, s, 0, 4);
        Doc.says("Undoable.");
        Edges.undoable("breakSensor(true)", (y, v) -> y.breakSensor(true) ? 1 : 0);
        Edges.undoable("breakSensor(false)", (y, v) -> y.breakSensor(false) ? 1 : 0);
        Doc.says("`broken`: whether it is broken");
        Doc.says("Returns whether it was broken before.");
        Check.due("was not", false, x.breakSensor(false));
        Check.due("was not again", false, x.breakSensor(true));
        Check.due("was", true, x.breakSensor(true));
        Check.due("was again", true, x.breakSensor(false));
        x.undo();
        Check.due("was, after undo()", true, x.breakSensor(true));
    }

    private static void seed() {
        Doc.open("Promise 7");
        Doc.says("Sets the number s of the model.");
        KnockControl x = new KnockControl();
        x.seed(0);
        x.drive(3000, 80, 110, 1);
        Check.due("s after 0", 12345, x.seed(1));
        x.drive(3000, 80, 110, 1);
        Check.due("s after 1", 1103515245 + 12345, x.seed(1));
        Edges.changesOnly("seed(77)", (y, v) -> y.seed(77));
        Edges.leaves("seed(77)", (y, v) -> y.seed(77), 12, 77, 0, 4);
        Doc.says("Undoable.");
        Edges.undoable("seed(5)", (y, v) -> y.seed(5));
        Doc.says("`seed`: 0 to 999999");
        Edges.range("seed", 0, 999999, Edges.ARGUMENT, (y, v) -> y.seed(v));
        Doc.says("Returns the previous s.");
        Check.due("seed(999999)", 1, x.seed(999999));
        Check.due("seed(0)", 999999, x.seed(0));
        Check.due("seed(0) again", 0, x.seed(0));
        x.drive(3000, 80, 110, 2);
        // It is above 999999, as the model makes it.
        Check.due("seed(1)", (12345L * 1103515245L + 12345L) & 0x7fffffffL, x.seed(1));
        Doc.says("Throws `IllegalArgumentException` if seed is out of range");
        Check.refusedArgument(x, "seed(-1)", () -> x.seed(-1));
        Check.refusedArgument(x, "seed(1000000)", () -> x.seed(1000000));
    }

    private static void fire() {
        Doc.open("Promise 8");
        Doc.says("Treats a firing of the next cylinder.");
        KnockControl x = new KnockControl();
        int[] knocks = {0, 0, 0, 0};
        for (int i = 0; i < 9; i++) {
            x.fire(3000, 80, 20000);
            knocks[i % 4]++;
            for (int c = 0; c < 4; c++) {
                Check.due("knocks of " + c + " after " + i, knocks[c], x.cylinder(c, 4));
            }
        }
        Check.due("s stays", 1, x.seed(1));
        Doc.says("Undoable.");
        Edges.undoable("fire(3000, 80, 20000)", (y, v) -> y.fire(3000, 80, 20000));
        Edges.undoable("fire(500, 0, 200)", (y, v) -> y.fire(500, 0, 200));
        Doc.says("`speed`: 500 to 7000");
        Edges.range("speed of fire", 500, 7000, Edges.ARGUMENT, (y, v) -> y.fire(v, 100, 20000));
        Doc.says("`load`: 0 to 100");
        Edges.range("load of fire", 0, 100, Edges.ARGUMENT, (y, v) -> y.fire(7000, v, 20000));
        Doc.says("`energy`: 0 to 20000");
        Edges.range("energy of fire", 0, 20000, Edges.ARGUMENT, (y, v) -> y.fire(7000, 100, v));
        Doc.says("Returns 1 if it knocks, 0 if not, 2 if the sensor is faulty (after step 1).");
        KnockControl z = new KnockControl();
        Check.due("551", 1, z.fire(3000, 80, 551));
        Check.due("550", 0, z.fire(3000, 80, 550));
        for (int i = 0; i < 19; i++) {
            Check.due("low " + i, 0, z.fire(3000, 80, 0));
        }
        Check.due("the firing that makes it faulty", 2, z.fire(3000, 80, 0));
        for (int i = 0; i < 49; i++) {
            Check.due("good " + i, 2, z.fire(3000, 80, i % 2 == 0 ? 20000 : 100));
        }
        Check.due("the firing that makes it sound", 1, z.fire(3000, 80, 20000));
        Check.due("and then", 0, z.fire(3000, 80, 100));
        Doc.says("Throws `IllegalArgumentException` if an argument is out of range");
        Check.refusedArgument(z, "fire(499, 0, 0)", () -> z.fire(499, 0, 0));
        Check.refusedArgument(z, "fire(500, 101, 0)", () -> z.fire(500, 101, 0));
        Check.refusedArgument(z, "fire(500, 0, 20001)", () -> z.fire(500, 0, 20001));
    }

    private static void drive() {
        Doc.open("Promise 9");
        Doc.says("Treats model firings of the next cylinders.");
        KnockControl one = new KnockControl();
        KnockControl two = new KnockControl();
        one.fire(3000, 80, 300);
        two.fire(3000, 80, 300);
        one.drive(3000, 80, 85, 7);
        for (int i = 0; i < 7; i++) {
            two.drive(3000, 80, 85, 1);
        }
        // The number of saved states is hashed last: it is 2 and 4.
        Check.due("seven at once and one by one", two.digest() - 4, one.digest() - 2);
        Check.due("next()", 0, one.next());
        Doc.says("Undoable.");
        Edges.undoable("drive of 0", (x, v) -> x.drive(3000, 80, 85, 0));
        Edges.undoable("drive of 1", (x, v) -> x.drive(3000, 80, 85, 1));
        Edges.undoable("drive of 1000", (x, v) -> x.drive(3000, 80, 85, 1000));
        Doc.says("`speed`: 500 to 7000");
        Edges.range("speed of drive", 500, 7000, Edges.ARGUMENT, (x, v) -> x.drive(v, 100, 80, 1));
        Doc.says("`load`: 0 to 100");
        Edges.range("load of drive", 0, 100, Edges.ARGUMENT, (x, v) -> x.drive(7000, v, 80, 1));
        Doc.says("`octane`: 80 to 110");
        Edges.range("octane of drive", 80, 110, Edges.ARGUMENT, (x, v) -> x.drive(7000, 100, v, 1));
        Doc.says("`count`: 0 to 1000");
        Edges.range("count of drive", 0, 1000, Edges.ARGUMENT, (x, v) -> {
            int knocked = x.drive(7000, 100, 80, v);
            Check.due("firings()", v, x.firings());
            return knocked;
        });
        Doc.says("Returns the number of firings that knocked.");
        KnockControl x = new KnockControl();
        Check.due("of none", 0, x.drive(3000, 80, 80, 0));
        Check.due("of one that knocks", 1, x.drive(3000, 80, 80, 1));
        Check.due("of one that does not", 0, x.drive(3000, 80, 110, 1));
        x.begin(2);
        int knocked = x.drive(3000, 80, 84, 600);
        Check.due("of 600", x.cylinder(0, 4) + x.cylinder(1, 4), knocked);
        Check.due("which are some, not all", true, knocked > 1 && knocked < 600);
        x.begin(2);
        Steps.makeFaulty(x);
        Check.due("49 that are not heard, and one", 1, x.drive(7000, 100, 80, 50));
        Doc.says("Throws `IllegalArgumentException` if an argument is out of range");
        Check.refusedArgument(x, "drive(499, 0, 80, 0)", () -> x.drive(499, 0, 80, 0));
        Check.refusedArgument(x, "drive(500, 101, 80, 0)", () -> x.drive(500, 101, 80, 0));
        Check.refusedArgument(x, "drive(500, 0, 79, 0)", () -> x.drive(500, 0, 79, 0));
        Check.refusedArgument(x, "drive(500, 0, 80, 1001)", () -> x.drive(500, 0, 80, 1001));
    }

    private static void firings() {
        Doc.open("Promise 10");
        Doc.says("Returns the number of firings that have been counted.");
        Edges.onlyLooks("firings()", (x, v) -> x.firings());
        Doc.says("Returns their number.");
        KnockControl x = new KnockControl();
        Check.due("none", 0, x.firings());
        x.fire(3000, 80, 20000);
        Check.due("one", 1, x.firings());
        Steps.makeFaulty(x);
        Check.due("those that are not heard, too", 21, x.firings());
        x.drive(3000, 80, 95, 1000);
        Steps.write(x, "500 0 0;500 0 0;");
        x.replay();
        Check.due("those of all methods", 1023, x.firings());
        x.quietAfter(3000, 80, 95);
        x.lowestOctane(3000, 80, 100);
        Check.due("not those of a copy", 1023, x.firings());
        x.undo();
        Check.due("not those undone", 1021, x.firings());
    }

    private static void next() {
        Doc.open("Promise 11");
        Doc.says("Returns the cylinder that fires next.");
        Edges.onlyLooks("next()", (x, v) -> x.next());
        Doc.says("Returns its number.");
        for (int cylinders = 2; cylinders <= 8; cylinders++) {
            KnockControl x = new KnockControl();
            x.begin(cylinders);
            Check.due("the first", 0, x.next());
            Steps.fire(x, cylinders - 1, 3000, 80, 200);
            Check.due("the last", cylinders - 1, x.next());
            x.fire(3000, 80, 200);
            Check.due("the first again", 0, x.next());
            x.drive(3000, 80, 95, 1000);
            Check.due("after 1000", 1000 % cylinders, x.next());
            x.begin(cylinders);
            Check.due("the first after begin", 0, x.next());
            x.undo();
            Check.due("after undo()", 1000 % cylinders, x.next());
        }
    }

    private static void cylinder() {
        Doc.open("Promise 12");
        Doc.says("Returns something about a cylinder.");
        Edges.onlyLooks("cylinder(0, 3)", (x, v) -> x.cylinder(0, 3));
        Doc.says("`cylinder`: a cylinder");
        for (int cylinders = 2; cylinders <= 8; cylinders++) {
            KnockControl x = new KnockControl();
            x.begin(cylinders);
            for (int c = 0; c < cylinders; c++) {
                Check.due("cylinder(" + c + ", 1) of " + cylinders, 51200, x.cylinder(c, 1));
            }
            int[] none = {-1, cylinders, 8, 256, Integer.MIN_VALUE, Integer.MAX_VALUE};
            for (int c : none) {
                Check.refusedPlace(x, "cylinder(" + c + ", 1) of " + cylinders, () -> x.cylinder(c, 1));
            }
        }
        Doc.says("`what`: 0 its fast retard, 1 its level, 2 its quiet count, 3 its threshold, ");
        Edges.range("what of cylinder", 0, 4, Edges.ARGUMENT, (x, v) -> x.cylinder(3, v));
        Doc.says("Returns that value.");
        KnockControl x = new KnockControl();
        x.fire(3000, 80, 550);
        x.fire(3000, 80, 551);
        int[] quiet = {0, 56800, 1, 604, 0};
        int[] loud = {10, 51200, 0, 550, 1};
        int[] none = {0, 51200, 0, 550, 0};
        for (int what = 0; what <= 4; what++) {
            Check.due("cylinder(0, " + what + ")", quiet[what], x.cylinder(0, what));
            Check.due("cylinder(1, " + what + ")", loud[what], x.cylinder(1, what));
            Check.due("cylinder(3, " + what + ")", none[what], x.cylinder(3, what));
        }
        Doc.says("Throws `IndexOutOfBoundsException` if there is no such cylinder");
        Check.refusedPlace(x, "cylinder(-1, 0)", () -> x.cylinder(-1, 0));
        Check.refusedPlace(x, "cylinder(4, 0)", () -> x.cylinder(4, 0));
        x.begin(8);
        x.begin(2);
        Check.refusedPlace(x, "cylinder(2, 0) of 2", () -> x.cylinder(2, 0));
        Doc.says("Throws `IllegalArgumentException` if what is out of range");
        Check.refusedArgument(x, "cylinder(0, -1)", () -> x.cylinder(0, -1));
        Check.refusedArgument(x, "cylinder(1, 5)", () -> x.cylinder(1, 5));
    }

    private static void cylinderKnocks() {
        Doc.says("4 how many of its firings knocked");
        KnockControl x = new KnockControl();
        x.begin(2);
        for (int i = 1; i <= 70; i++) {
            x.fire(3000, 80, 20000);
            x.fire(3000, 80, 200);
            Check.due("knocks of 0", i, x.cylinder(0, 4));
            Check.due("knocks of 1", 0, x.cylinder(1, 4));
        }
        Check.due("more than there are events", 60, x.events());
        x.undo();
        x.undo();
        Check.due("after undo()", 69, x.cylinder(0, 4));
        Steps.makeFaulty(x);
        x.fire(3000, 80, 20000);
        x.fire(3000, 80, 20000);
        Check.due("not those that are not heard", 69, x.cylinder(0, 4) + x.cylinder(1, 4));
    }

    private static void learned() {
        Doc.open("Promise 13");
        Doc.says("Returns a learned retard.");
        Edges.onlyLooks("learned(2, 3)", (x, v) -> x.learned(2, 3));
        Doc.says("`row`: 0 to 5");
        Edges.range("row of learned", 0, 5, Edges.PLACE, (x, v) -> x.learned(v, 0));
        Edges.range("row of learned in the last column", 0, 5, Edges.PLACE, (x, v) -> x.learned(v, 3));
        Doc.says("`column`: 0 to 3");
        Edges.range("column of learned", 0, 3, Edges.PLACE, (x, v) -> x.learned(0, v));
        Edges.range("column of learned in the last row", 0, 3, Edges.PLACE, (x, v) -> x.learned(5, v));
        Doc.says("Returns the learned retard.");
        for (int cell = 0; cell < 24; cell++) {
            KnockControl x = new KnockControl();
            x.teach(cell / 4, cell % 4, 100);
            for (int other = 0; other < 24; other++) {
                Check.due("learned in cell " + other, other == cell ? 100 : 0, x.learned(other / 4, other % 4));
            }
        }
        Doc.says("Throws `IndexOutOfBoundsException` if there is no such cell");
        KnockControl x = new KnockControl();
        Check.refusedPlace(x, "learned(6, 0)", () -> x.learned(6, 0));
        Check.refusedPlace(x, "learned(0, 4)", () -> x.learned(0, 4));
        Check.refusedPlace(x, "learned(1, -1)", () -> x.learned(1, -1));
        Check.refusedPlace(x, "learned(-1, 4)", () -> x.learned(-1, 4));
    }

    private static void angle() {
        Doc.open("Promise 14");
        Doc.says("Returns the retard of a cylinder, or its advance.");
        Edges.onlyLooks("angle(0, 3000, 80, true)", (x, v) -> x.angle(0, 3000, 80, true));
        Doc.says("`cylinder`: a cylinder");
        Edges.range("cylinder of angle", 0, 3, Edges.PLACE, (x, v) -> x.angle(v, 3000, 80, true));
        Doc.says("`speed`: 500 to 7000");
        Edges.range("speed of angle", 500, 7000, Edges.ARGUMENT, (x, v) -> x.angle(3, v, 100, true));
        Doc.says("`load`: 0 to 100");
        Edges.range("load of angle", 0, 100, Edges.ARGUMENT, (x, v) -> x.angle(0, 7000, v, false));
        Doc.says("`advance`: true for its advance, false for its retard");
        Doc.says("Returns that value.");
        KnockControl x = new KnockControl();
        x.fire(3000, 80, 20000);
        x.teach(5, 3, 5);
        x.teach(0, 0, 7);
        Check.due("retard at the greatest speed and load", 45, x.angle(0, 7000, 100, false));
        Check.due("advance there", 140 - 45, x.angle(0, 7000, 100, true));
        Check.due("retard at the least speed and load", 47, x.angle(0, 500, 0, false));
        Check.due("advance there", 110 - 47, x.angle(0, 500, 0, true));
        Check.due("retard of the last cylinder", 7, x.angle(3, 500, 0, false));
        Check.due("advance of the last cylinder", 103, x.angle(3, 500, 0, true));
        Doc.says("Throws `IndexOutOfBoundsException` if there is no such cylinder");
        x.begin(8);
        Check.due("cylinder 7 of 8", 0, x.angle(7, 500, 0, false));
        x.begin(2);
        Check.refusedPlace(x, "cylinder 2 of 2", () -> x.angle(2, 500, 0, false));
        Check.refusedPlace(x, "cylinder -1", () -> x.angle(-1, 500, 0, true));
        Doc.says("Throws `IllegalArgumentException` if speed or load is out of range");
        Check.refusedArgument(x, "speed 499", () -> x.angle(1, 499, 0, false));
        Check.refusedArgument(x, "load 101", () -> x.angle(0, 500, 101, true));
    }

    private static void status() {
        Doc.open("Promise 15");
        Doc.says("Returns something about the control.");
        Edges.onlyLooks("status(4)", (x, v) -> x.status(4));
        Doc.says("`what`: 0 1 if the sensor is faulty, otherwise 0; 1 the low count; 2 the good count; "
            + "3 the steady count; 4 the cell of the latest firing, 4 * row + column (NONE if there was none)");
        Edges.range("what of status", 0, 4, Edges.ARGUMENT, (x, v) -> x.status(v));
        Doc.says("Returns that value.");
        KnockControl x = new KnockControl();
        dueStatus("at first", x, 0, 0, 0, 0, KnockControl.NONE);
        Steps.fire(x, 3, 500, 0, 200);
        dueStatus("after three good ones", x, 0, 0, 3, 2, 0);
        Steps.fire(x, 20, 7000, 100, 9);
        dueStatus("after 20 low ones", x, 1, 20, 0, 19, 23);
        Steps.fire(x, 49, 2000, 30, 10);
        dueStatus("after 49 good ones", x, 1, 0, 49, 48, 5);
        x.fire(2000, 80, 10);
        dueStatus("after 50", x, 0, 0, 50, 0, 7);
        x.undo();
        dueStatus("after undo()", x, 1, 0, 49, 48, 5);
        x.begin(4);
        dueStatus("after begin(4)", x, 0, 0, 0, 0, KnockControl.NONE);
        Doc.says("Throws `IllegalArgumentException` if what is out of range");
        Check.refusedArgument(x, "status(-1)", () -> x.status(-1));
        Check.refusedArgument(x, "status(5)", () -> x.status(5));
    }

    private static void dueStatus(String when, KnockControl x, int... due) {
        for (int what = 0; what < due.length; what++) {
            Check.due("status(" + what + ") " + when, due[what], x.status(what));
        }
    }
}
