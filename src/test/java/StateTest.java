import java.util.ArrayList;
import java.util.List;

/** Promises 29 and 30: undo and digest; and what calls leave alone. */
public final class StateTest {
    public static void main(String[] args) {
        undoOfEach();
        notUndoable();
        fourSaved();
        undoWholeState();
        digestOfNew();
        digestOfMuch();
        digestOfEach();
        Check.end();
    }

    // Promise 29
    private static void undoOfEach() {
        List<java.util.function.Consumer<KnockControl>> changes = new ArrayList<>();
        changes.add(x -> x.begin(5));
        changes.add(x -> x.set(7, 99));
        changes.add(x -> x.teach(3, 3, 3));
        changes.add(x -> x.breakSensor(true));
        changes.add(x -> x.seed(5));
        changes.add(x -> x.fire(3000, 80, 20000));
        changes.add(x -> x.drive(3000, 80, 80, 300));
        changes.add(x -> {
            Steps.write(x, "3000 80 20000;500 0 0;");
            x.replay();
            x.clearText();
        });
        for (int i = 0; i < changes.size(); i++) {
            KnockControl x = new KnockControl();
            Steps.fire(x, 30, 3000, 80, 600);
            Steps.makeFaulty(x);
            x.undo();
            long before = x.digest();
            changes.get(i).accept(x);
            Check.due("change " + i + " is kept", 3, x.undo());
            Check.due("change " + i + " undone", before, x.digest());
        }
    }

    private static void notUndoable() {
        KnockControl x = new KnockControl();
        x.value(0);
        x.firings();
        x.next();
        x.cylinder(0, 0);
        x.learned(0, 0);
        x.angle(0, 500, 0, true);
        x.status(0);
        x.unfairness();
        x.rateBits();
        x.octane(0);
        x.extreme(0, true, true);
        x.events();
        x.eventsOf(0);
        x.limit(0, 500, 0, 95);
        x.quietAfter(500, 0, 95);
        x.lowestOctane(500, 0, 5);
        x.append('5');
        x.replay();
        x.clearText();
        x.digest();
        Check.refusedState(x, "undo() after calls that are not undoable", x::undo);
        Check.refusedArgument(x, "set(0, 0)", () -> x.set(0, 0));
        Check.refusedState(x, "undo() after a refused call", x::undo);
    }

    private static void fourSaved() {
        KnockControl x = new KnockControl();
        for (int i = 0; i < 9; i++) {
            x.set(7, i);
        }
        for (int i = 3; i >= 0; i--) {
            Check.due("undo()", i, x.undo());
            Check.due("value(7)", 4 + i, x.value(7));
        }
        Check.refusedState(x, "undo() of a fifth", x::undo);
        x.set(7, 50);
        Check.due("undo() of one again", 0, x.undo());
        Check.due("value(7) again", 4, x.value(7));
        for (int i = 0; i < 3; i++) {
            x.set(7, 60 + i);
        }
        x.undo();
        x.set(7, 70);
        x.set(7, 71);
        x.set(7, 72);
        int[] due = {71, 70, 61, 60};
        for (int i = 0; i < 4; i++) {
            Check.due("undo() of a mixed run", 3 - i, x.undo());
            Check.due("its value", due[i], x.value(7));
        }
    }

    private static void undoWholeState() {
        KnockControl x = new KnockControl();
        long[] digests = new long[4];
        Steps.fire(x, 4, 3000, 80, 700);
        x.begin(6);
        x.drive(3000, 80, 82, 500);
        x.breakSensor(true);
        x.drive(7000, 10, 82, 19);
        for (int i = 0; i < 4; i++) {
            digests[i] = x.digest();
            x.drive(3000 + 1000 * i, 80, 82, 100 + i);
        }
        Steps.write(x, "12");
        x.clearText();
        for (int i = 3; i >= 0; i--) {
            x.undo();
            // The number of saved states is hashed last: it was 4 and is i now.
            Check.due("undo() of a drive " + i, digests[i] - 4 + i, x.digest());
        }
    }

    // Promise 30
    private static void digestOfNew() {
        KnockControl x = new KnockControl();
        long h = 2969;
        long[] head = {0, 40, 10, 20, 150, 40, 30, 10, 60, 4, 0, 0, 1, 0, 0, 0, 0, 0, -1};
        for (long v : head) {
            h = 31 * h + v;
        }
        for (int c = 0; c < 4; c++) {
            long[] about = {0, 51200, 0, 550, 0};
            for (long v : about) {
                h = 31 * h + v;
            }
        }
        for (int i = 0; i < 26; i++) {
            h = 31 * h;
        }
        Check.due("digest() of a new object", h, x.digest());
        Check.due("digest() again", h, x.digest());
    }

    private static void digestOfMuch() {
        KnockControl x = new KnockControl();
        x.begin(8);
        x.set(4, 77);
        x.teach(4, 1, 55);
        x.teach(0, 2, 5);
        x.drive(3000, 90, 81, 200);
        x.seed(4711);
        x.breakSensor(true);
        Steps.write(x, "3000 1");
        Check.due("digest() of much", Edges.hash(x, 6, 4711, 1, 4), x.digest());
        digestOfLess();
    }

    private static void digestOfLess() {
        KnockControl x = new KnockControl();
        x.teach(4, 1, 55);
        x.drive(3000, 90, 81, 10);
        x.seed(4711);
        x.breakSensor(true);
        Steps.write(x, "3000 1");
        x.undo();
        Check.due("digest() after undo", Edges.hash(x, 6, 4711, 0, 3), x.digest());
        Steps.fire(x, 21, 3000, 90, 0);
        x.undo();
        Check.due("digest() with a faulty sensor", Edges.hash(x, 6, 4711, 0, 3), x.digest());
    }

    /** Each thing that is hashed changes the hash. */
    private static void digestOfEach() {
        KnockControl x = new KnockControl();
        Steps.fire(x, 4, 3000, 80, 300);
        long before = x.digest();
        x.append(0);
        Check.due("length", true, before != x.digest());
        x.clearText();
        Check.due("no length", before, x.digest());
        for (int what = 0; what < 8; what++) {
            x.set(what, x.value(what) + 1);
            Check.due("value " + what, true, before != x.digest());
            x.undo();
            x.set(what, x.value(what));
            Check.due("the same value " + what, before, x.digest());
        }
        x.seed(2);
        Check.due("s", true, before != x.digest());
        x.undo();
        x.breakSensor(true);
        Check.due("broken", true, before != x.digest());
        x.undo();
        // The number of saved states is hashed last: it was 4 and is 3 now.
        Check.due("fewer saved states", before - 1, x.digest());
    }
}
