/** Promises 1 to 7: a new object, begin, set, value, teach, breakSensor, seed. */
public final class SettingsTest {
    private static final int[] FIRST = {40, 10, 20, 150, 40, 30, 10, 60};
    private static final int[] LEAST = {16, 1, 1, 20, 0, 1, 0, 0};
    private static final int[] MOST = {128, 50, 200, 200, 200, 500, 1000, 100};

    public static void main(String[] args) {
        Check.due("NONE", -1, KnockControl.NONE);
        newObject();
        begin();
        set();
        value();
        teach();
        breakSensor();
        seed();
        Check.end();
    }

    // Promise 1
    private static void newObject() {
        KnockControl x = new KnockControl();
        for (int what = 0; what < 8; what++) {
            Check.due("new: value(" + what + ")", FIRST[what], x.value(what));
        }
        Check.due("new: value(8)", 4, x.value(8));
        lookInitial(x, 4);
        Check.due("new: clearText()", 0, x.clearText());
        Check.refusedState(x, "new: undo()", x::undo);
        Check.due("new: seed(5)", 1, x.seed(5));
        Check.due("new: breakSensor(true)", false, x.breakSensor(true));
        Check.due("another new object: value(8)", 4, new KnockControl().value(8));
    }

    private static void lookInitial(KnockControl x, int cylinders) {
        Check.due("firings()", 0, x.firings());
        Check.due("next()", 0, x.next());
        Check.due("events()", 0, x.events());
        Check.due("unfairness()", 0, x.unfairness());
        Check.due("rateBits()", 0, x.rateBits());
        int[] aboutCylinder = {0, 51200, 0, 51200 * x.value(0) / 4096 + 50, 0};
        for (int c = 0; c < cylinders; c++) {
            for (int what = 0; what < 5; what++) {
                Check.due("cylinder(" + c + ", " + what + ")", aboutCylinder[what], x.cylinder(c, what));
            }
        }
        Check.refusedPlace(x, "cylinder(cylinders, 0)", () -> x.cylinder(cylinders, 0));
        for (int cell = 0; cell < 24; cell++) {
            Check.due("learned of cell " + cell, 0, x.learned(cell / 4, cell % 4));
        }
        int[] aboutControl = {0, 0, 0, 0, -1};
        for (int what = 0; what < 5; what++) {
            Check.due("status(" + what + ")", aboutControl[what], x.status(what));
        }
    }

    // Promise 2
    private static void begin() {
        KnockControl x = new KnockControl();
        x.set(0, 41);
        x.seed(77);
        x.breakSensor(true);
        x.teach(5, 3, 9);
        x.teach(0, 0, 1);
        Steps.fire(x, 3, 3000, 80, 20000);
        Steps.fire(x, 20, 3000, 80, 0);
        Steps.write(x, "500 0");
        Check.due("faulty before begin", 1, x.status(0));
        Check.due("begin(8)", 23, x.begin(8));
        lookInitial(x, 8);
        Check.due("begin: value(8)", 8, x.value(8));
        Check.due("begin: the settings stay", 41, x.value(0));
        Check.due("begin: the text stays", 5, x.clearText());
        Check.due("begin: undo()", 3, x.undo());
        Check.due("undone begin: value(8)", 4, x.value(8));
        Check.due("undone begin: firings()", 23, x.firings());
        Check.due("undone begin: learned(5, 3)", 9, x.learned(5, 3));
        Check.due("undone begin: events()", 4, x.events());
        x.begin(2);
        lookInitial(x, 2);
        Check.due("begin: the sensor stays", true, x.breakSensor(false));
        Check.due("begin: s stays", 77, x.seed(1));
        Check.due("begin again", 0, x.begin(3));
        x.fire(3000, 80, 200);
        Check.due("good count before begin", 1, x.status(2));
        x.begin(3);
        lookInitial(x, 3);
        x.fire(3000, 80, 551);
        Check.due("begin once more", 1, x.begin(3));
        x.fire(3000, 80, 551);
        x.fire(3000, 80, 551);
        Check.due("next() of 3", 2, x.next());
        x.fire(3000, 80, 551);
        Check.due("next() of 3, a cycle later", 0, x.next());
        Check.refusedArgument(x, "begin(1)", () -> x.begin(1));
        Check.refusedArgument(x, "begin(9)", () -> x.begin(9));
        Check.refusedArgument(x, "begin(-1)", () -> x.begin(-1));
        Check.refusedArgument(x, "begin(max)", () -> x.begin(Integer.MAX_VALUE));
    }

    // Promise 3
    private static void set() {
        for (int what = 0; what < 8; what++) {
            KnockControl x = new KnockControl();
            int place = what;
            String set = "set(" + what + ", ";
            Check.due(set + "least)", FIRST[what], x.set(what, LEAST[what]));
            Check.due("least value", LEAST[what], x.value(what));
            Check.due(set + "most)", LEAST[what], x.set(what, MOST[what]));
            Check.due("most value", MOST[what], x.value(what));
            Check.refusedArgument(x, set + "least - 1)", () -> x.set(place, LEAST[place] - 1));
            Check.refusedArgument(x, set + "most + 1)", () -> x.set(place, MOST[place] + 1));
            Check.refusedArgument(x, set + "max)", () -> x.set(place, Integer.MAX_VALUE));
            Check.due("set is undoable", 1, x.undo());
            Check.due("undone set", LEAST[what], x.value(what));
            for (int other = 0; other < 8; other++) {
                Check.due("another value", other == what ? LEAST[other] : FIRST[other], x.value(other));
            }
        }
        KnockControl x = new KnockControl();
        Check.refusedArgument(x, "set(-1, 40)", () -> x.set(-1, 40));
        Check.refusedArgument(x, "set(8, 4)", () -> x.set(8, 4));
        Check.refusedArgument(x, "set(min, 4)", () -> x.set(Integer.MIN_VALUE, 4));
        Check.refusedArgument(x, "set(max, 4)", () -> x.set(Integer.MAX_VALUE, 4));
        x.set(3, 20);
        x.set(3, 20);
        Check.due("a set that changes nothing is kept", 1, x.undo());
    }

    // Promise 4
    private static void value() {
        KnockControl x = new KnockControl();
        x.begin(7);
        Check.due("value(8)", 7, x.value(8));
        Check.due("value(0)", 40, x.value(0));
        Check.due("value(7)", 60, x.value(7));
        Check.refusedArgument(x, "value(-1)", () -> x.value(-1));
        Check.refusedArgument(x, "value(9)", () -> x.value(9));
        Check.refusedArgument(x, "value(max)", () -> x.value(Integer.MAX_VALUE));
    }

    // Promise 5
    private static void teach() {
        KnockControl x = new KnockControl();
        Check.due("teach(0, 3, 100)", 0, x.teach(0, 3, 100));
        Check.due("teach(0, 3, 7)", 100, x.teach(0, 3, 7));
        Check.due("teach(5, 0, 8)", 0, x.teach(5, 0, 8));
        Check.due("learned(0, 3)", 7, x.learned(0, 3));
        Check.due("learned(5, 0)", 8, x.learned(5, 0));
        Check.due("learned(1, 0)", 0, x.learned(1, 0));
        Check.due("teach is undoable", 2, x.undo());
        Check.due("undone teach", 0, x.learned(5, 0));
        Check.refusedPlace(x, "teach(-1, 0, 1)", () -> x.teach(-1, 0, 1));
        Check.refusedPlace(x, "teach(6, 0, 1)", () -> x.teach(6, 0, 1));
        Check.refusedPlace(x, "teach(0, -1, 1)", () -> x.teach(0, -1, 1));
        Check.refusedPlace(x, "teach(0, 4, 1)", () -> x.teach(0, 4, 1));
        Check.refusedPlace(x, "teach(1, -1, 1)", () -> x.teach(1, -1, 1));
        Check.refusedPlace(x, "teach(6, 4, 101)", () -> x.teach(6, 4, 101));
        Check.refusedArgument(x, "teach(5, 3, 101)", () -> x.teach(5, 3, 101));
        Check.refusedArgument(x, "teach(0, 0, -1)", () -> x.teach(0, 0, -1));
    }

    // Promise 6
    private static void breakSensor() {
        KnockControl x = new KnockControl();
        Check.due("breakSensor(true)", false, x.breakSensor(true));
        Check.due("breakSensor(true) again", true, x.breakSensor(true));
        Check.due("breakSensor(false)", true, x.breakSensor(false));
        Check.due("breakSensor(true) at last", false, x.breakSensor(true));
        Check.due("breakSensor is undoable", 3, x.undo());
        Check.due("undone breakSensor", false, x.breakSensor(false));
        x.breakSensor(true);
        x.drive(3000, 80, 80, 3);
        Check.due("the firings have no energy", 3, x.status(1));
        x.set(6, 1);
        x.drive(3000, 80, 80, 3);
        Check.due("none at all", 6, x.status(1));
        x.fire(3000, 80, 400);
        Check.due("fire does not use the model's sensor", 1, x.status(2));
    }

    // Promise 7
    private static void seed() {
        KnockControl x = new KnockControl();
        Check.due("seed(0)", 1, x.seed(0));
        Check.due("seed(999999)", 0, x.seed(999999));
        Check.due("seed(3)", 999999, x.seed(3));
        Check.due("seed is undoable", 2, x.undo());
        Check.due("undone seed", 999999, x.seed(1));
        x.drive(500, 0, 110, 1);
        // 1103515245 + 12345
        Check.due("s after a model firing", 1103527590L, x.seed(0));
        x.drive(500, 0, 110, 2);
        // 12345, then 1103515245 * 12345 + 12345 modulo 2 to the 31st
        Check.due("s after two", (1103515245L * 12345L + 12345L) % 2147483648L, x.seed(0));
        Check.refusedArgument(x, "seed(-1)", () -> x.seed(-1));
        Check.refusedArgument(x, "seed(1000000)", () -> x.seed(1000000));
    }
}
