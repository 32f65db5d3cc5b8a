/** Promises 20 to 22: events, event, eventsOf. */
public final class LogTest {
    public static void main(String[] args) {
        growing();
        kinds();
        refused();
        Check.end();
    }

    /** Every firing knocks, so that event and firing go together until the log is full. */
    private static void growing() {
        KnockControl x = knocks(0);
        for (int count = 0; count <= 150; count++) {
            x = knocks(count);
            int size = Math.min(count, 60);
            Check.due("events() after " + count, size, x.events());
            Check.due("eventsOf(0) after " + count, size, x.eventsOf(0));
            for (int event = 0; event < size; event++) {
                int firing = count - size + event;
                Check.due("kind", 0, x.event(event, 0));
                Check.due("cylinder of event " + event, firing % 7, x.event(event, 1));
                Check.due("firing of event " + event, firing, x.event(event, 2));
            }
        }
        int before = x.event(0, 2);
        x.fire(3000, 80, 20000);
        Check.due("the oldest is dropped", before + 1, x.event(0, 2));
        x.undo();
        Check.due("and comes back", before, x.event(0, 2));
        Check.due("after undo the latest", 149, x.event(59, 2));
        x.begin(4);
        Check.due("empty after begin", 0, x.events());
        x.fire(3000, 80, 20000);
        Check.due("from 0 again", 0, x.event(0, 2));
    }

    private static KnockControl knocks(int count) {
        KnockControl x = new KnockControl();
        x.begin(7);
        // Nothing is to be learned meanwhile, as that would make events, too.
        x.set(5, 500);
        Steps.fire(x, count, 3000, 80, 20000);
        return x;
    }

    private static void kinds() {
        KnockControl x = new KnockControl();
        x.set(5, 1);
        x.set(4, 200);
        x.begin(2);
        Steps.fire(x, 3, 7000, 30, 20000);
        // The steady count is 2 with the third firing: 80 and 40 are learned from.
        int[][] due = {{0, 0, 0}, {0, 1, 1}, {0, 0, 2}, {3, 21, 2}};
        look(x, due);
        x.begin(2);
        x.teach(0, 3, 1);
        Steps.fire(x, 3, 500, 75, 100);
        Steps.fire(x, 20, 500, 75, 0);
        Steps.fire(x, 50, 500, 75, 20);
        int[][] then = {{4, 3, 2}, {1, 0, 22}, {2, 0, 72}};
        look(x, then);
        for (int kind = 0; kind < 5; kind++) {
            Check.due("eventsOf(" + kind + ")", kind == 0 || kind == 3 ? 0 : 1, x.eventsOf(kind));
        }
    }

    private static void look(KnockControl x, int[][] due) {
        Check.due("events()", due.length, x.events());
        for (int i = 0; i < due.length && i < x.events(); i++) {
            for (int what = 0; what < 3; what++) {
                Check.due("event(" + i + ", " + what + ")", due[i][what], x.event(i, what));
            }
        }
    }

    private static void refused() {
        KnockControl x = new KnockControl();
        Check.refusedPlace(x, "event(0, 0) of none", () -> x.event(0, 0));
        Steps.fire(x, 2, 3000, 80, 20000);
        Check.due("event(1, 2)", 1, x.event(1, 2));
        Check.refusedPlace(x, "event(2, 0)", () -> x.event(2, 0));
        Check.refusedPlace(x, "event(-1, 0)", () -> x.event(-1, 0));
        Check.refusedPlace(x, "event(max, 0)", () -> x.event(Integer.MAX_VALUE, 0));
        Check.refusedPlace(x, "event(2, 3)", () -> x.event(2, 3));
        Check.refusedArgument(x, "event(1, 3)", () -> x.event(1, 3));
        Check.refusedArgument(x, "event(1, -1)", () -> x.event(1, -1));
        Check.refusedArgument(x, "eventsOf(-1)", () -> x.eventsOf(-1));
        Check.refusedArgument(x, "eventsOf(5)", () -> x.eventsOf(5));
        Steps.fire(x, 70, 3000, 80, 20000);
        Check.refusedPlace(x, "event(60, 0)", () -> x.event(60, 0));
    }
}
