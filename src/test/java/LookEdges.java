/** The sentences of promises 16 to 30. */
final class LookEdges {
    private LookEdges() {
    }

    static void all() {
        unfairness();
        rateBits();
        octane();
        extreme();
        events();
        event();
        eventsOf();
        limit();
        limitRefused();
        quietAfter();
        quietAfterEdges();
        lowestOctane();
        append();
        clearText();
        replay();
        replayRange();
        undo();
        digest();
    }

    private static void unfairness() {
        Doc.open("Promise 16");
        Doc.says("Returns the greatest difference of the fast retards of two cylinders.");
        Edges.onlyLooks("unfairness()", (x, v) -> x.unfairness());
        Doc.says("Returns the difference.");
        for (int cylinders = 2; cylinders <= 8; cylinders++) {
            for (int one = 0; one < cylinders; one++) {
                Check.due("of " + cylinders + ", most has " + one, 40, unfairness(cylinders, one, 20000, 200));
                Check.due("of " + cylinders + ", least has " + one, 40, unfairness(cylinders, one, 200, 20000));
                Check.due("of " + cylinders + ", all have as much", 0, unfairness(cylinders, one, 20000, 20000));
            }
        }
        KnockControl x = new KnockControl();
        Check.due("at first", 0, x.unfairness());
        x.set(1, 50);
        x.set(3, 200);
        x.set(4, 200);
        x.fire(3000, 80, 20000);
        Check.due("200 and 0", 200, x.unfairness());
        x.begin(2);
        Check.due("after begin(2)", 0, x.unfairness());
    }

    private static int unfairness(int cylinders, int one, int own, int others) {
        KnockControl x = new KnockControl();
        x.begin(cylinders);
        for (int c = 0; c < cylinders; c++) {
            x.fire(3000, 80, c == one ? own : others);
        }
        return x.unfairness();
    }

    private static void rateBits() {
        Doc.open("Promise 17");
        Doc.says("Returns the share of firings that knocked.");
        Edges.onlyLooks("rateBits()", (x, v) -> x.rateBits());
        Doc.says("Returns the number of firings that knocked, converted to float, divided by the number of "
            + "firings, converted to float, as bits (Float.floatToIntBits);");
        for (int firings = 1; firings <= 120; firings++) {
            KnockControl x = new KnockControl();
            x.begin(2 + firings % 7);
            int knocks = firings * 17 % (firings + 1);
            Steps.fire(x, knocks, 3000, 80, 20000);
            Steps.fire(x, firings - knocks, 3000, 80, 200);
            Check.due(knocks + " of " + firings, Float.floatToIntBits((float) knocks / (float) firings), x.rateBits());
        }
        KnockControl x = new KnockControl();
        x.fire(3000, 80, 20000);
        Check.due("1 of 1", 0x3f800000, x.rateBits());
        x.fire(3000, 80, 200);
        Check.due("1 of 2", 0x3f000000, x.rateBits());
        x.fire(3000, 80, 200);
        Check.due("1 of 3", 0x3eaaaaab, x.rateBits());
        Steps.makeFaulty(x);
        Check.due("1 of 23", Float.floatToIntBits(1.0f / 23.0f), x.rateBits());
        x.breakSensor(true);
        for (int i = 0; i < 470; i++) {
            x.drive(3000, 80, 95, 1000);
        }
        Check.due("1 of 470023", Float.floatToIntBits(1.0f / 470023.0f), x.rateBits());
        Doc.says("the bits of 0.0f without firings.");
        Check.due("at first", 0, new KnockControl().rateBits());
        x.begin(4);
        Check.due("after begin(4)", 0, x.rateBits());
        x.fire(3000, 80, 200);
        Check.due("0 of 1", 0, x.rateBits());
    }

    private static void octane() {
        Doc.open("Promise 18");
        Doc.says("Estimates the octane number: 100 minus half of the mean of the learned retards "
            + "of all cells of a column that are above 0.");
        Edges.onlyLooks("octane(3)", (x, v) -> (long) x.octane(3));
        KnockControl x = new KnockControl();
        x.teach(1, 1, 10);
        x.teach(4, 1, 30);
        Check.dueDouble("10 and 30, and four cells with 0", 90.0, x.octane(1));
        x.teach(0, 1, 1);
        Check.dueDouble("1, too", 100.0 - 41.0 / 3.0 / 2.0, x.octane(1));
        x.teach(0, 1, 0);
        Check.dueDouble("and not with 0", 90.0, x.octane(1));
        Doc.says("`column`: 0 to 3");
        Edges.range("octane", 0, 3, Edges.PLACE, (y, v) -> (long) y.octane(v));
        Doc.says("Returns 100.0 - (the sum of these learned retards, converted to double, divided by their "
            + "number, converted to double) / 2.0;");
        for (int column = 0; column < 4; column++) {
            KnockControl y = new KnockControl();
            int sum = 0;
            for (int row = 0; row < 6; row++) {
                y.teach(row, column, 100 - 13 * row);
                sum += 100 - 13 * row;
                Check.dueDouble("of " + (row + 1), 100.0 - ((double) sum / (double) (row + 1)) / 2.0, y.octane(column));
            }
            for (int other = 0; other < 4; other++) {
                Check.due("of column " + other, other == column, y.octane(other) != 100.0);
            }
        }
        KnockControl most = new KnockControl();
        most.teach(5, 3, 100);
        Check.dueDouble("the least estimate", 50.0, most.octane(3));
        most.teach(5, 3, 1);
        Check.dueDouble("the greatest below 100", 99.5, most.octane(3));
        Doc.says("100.0 if there are none.");
        most.teach(5, 3, 0);
        for (int column = 0; column < 4; column++) {
            Check.dueDouble("none in column " + column, 100.0, most.octane(column));
        }
        Doc.says("Throws `IndexOutOfBoundsException` if there is no such column");
        Check.refusedPlace(x, "octane(-1)", () -> (long) x.octane(-1));
        Check.refusedPlace(x, "octane(4)", () -> (long) x.octane(4));
        Check.refusedPlace(x, "octane(5)", () -> (long) x.octane(5));
    }

    private static void extreme() {
        Doc.open("Promise 19");
        Doc.says("Returns the greatest and the smallest learned retard of a row or of a column.");
        Edges.onlyLooks("extreme(5, true, true)", (x, v) -> x.extreme(5, true, true));
        Doc.says("`index`: 0 to 5 for a row, 0 to 3 for a column");
        Edges.range("row of extreme", 0, 5, Edges.PLACE, (x, v) -> x.extreme(v, true, true));
        Edges.range("row of extreme, smallest", 0, 5, Edges.PLACE, (x, v) -> x.extreme(v, true, false));
        Edges.range("column of extreme", 0, 3, Edges.PLACE, (x, v) -> x.extreme(v, false, true));
        Edges.range("column of extreme, smallest", 0, 3, Edges.PLACE, (x, v) -> x.extreme(v, false, false));
        Doc.says("`row`: true for a row, false for a column");
        Doc.says("`greatest`: true for the greatest one, false for the smallest one");
        Doc.says("Returns that learned retard.");
        for (int cell = 0; cell < 24; cell++) {
            KnockControl x = new KnockControl();
            x.teach(cell / 4, cell % 4, 70);
            KnockControl y = new KnockControl();
            for (int i = 0; i < 24; i++) {
                y.teach(i / 4, i % 4, i == cell ? 30 : 50);
            }
            for (int row = 0; row < 6; row++) {
                boolean own = row == cell / 4;
                Check.due("greatest of row " + row, own ? 70 : 0, x.extreme(row, true, true));
                Check.due("smallest of row " + row, own ? 30 : 50, y.extreme(row, true, false));
                Check.due("smallest of row " + row + " with 70", 0, x.extreme(row, true, false));
                Check.due("greatest of row " + row + " with 30", 50, y.extreme(row, true, true));
            }
            for (int column = 0; column < 4; column++) {
                boolean own = column == cell % 4;
                Check.due("greatest of column " + column, own ? 70 : 0, x.extreme(column, false, true));
                Check.due("smallest of column " + column, own ? 30 : 50, y.extreme(column, false, false));
                Check.due("smallest of column " + column + " with 70", 0, x.extreme(column, false, false));
                Check.due("greatest of column " + column + " with 30", 50, y.extreme(column, false, true));
            }
        }
        Doc.says("Throws `IndexOutOfBoundsException` if there is no such row or column");
        KnockControl x = new KnockControl();
        Check.refusedPlace(x, "extreme(6, true, false)", () -> x.extreme(6, true, false));
        Check.refusedPlace(x, "extreme(4, false, true)", () -> x.extreme(4, false, true));
        Check.refusedPlace(x, "extreme(5, false, true)", () -> x.extreme(5, false, true));
        Check.refusedPlace(x, "extreme(-1, true, true)", () -> x.extreme(-1, true, true));
        Check.refusedPlace(x, "extreme(-1, false, true)", () -> x.extreme(-1, false, true));
    }

    private static void events() {
        Doc.open("Promise 20");
        Doc.says("Returns the number of events in the log.");
        Edges.onlyLooks("events()", (x, v) -> x.events());
        Doc.says("Returns 0 to 60.");
        KnockControl x = new KnockControl();
        x.set(5, 500);
        for (int i = 0; i <= 130; i++) {
            Check.due("after " + i, Math.min(i, 60), x.events());
            x.fire(3000, 80, 20000);
        }
        x.begin(4);
        Check.due("after begin(4)", 0, x.events());
        x.undo();
        Check.due("after undo()", 60, x.events());
    }

    private static void event() {
        Doc.open("Promise 21");
        Doc.says("Returns something about an event.");
        Edges.onlyLooks("event(0, 0)", (x, v) -> x.events() > 0 ? x.event(0, 0) : 0);
        Doc.says("`event`: index of the event, 0 for the oldest one");
        for (int size = 0; size <= 130; size += size == 0 || size > 57 && size < 62 ? 1 : 19) {
            KnockControl x = new KnockControl();
            int many = Math.min(60, size);
            x.begin(8);
            x.set(5, 500);
            Steps.fire(x, size, 3000, 80, 20000);
            for (int event = 0; event < many; event += event < 3 || event > many - 4 ? 1 : 5) {
                Check.due("firing of " + event + " of " + size, size - many + event, x.event(event, 2));
                Check.due("cylinder of " + event + " of " + size, (size - many + event) % 8, x.event(event, 1));
            }
            int[] none = {-1, many, many + 1, 60, 256, Integer.MIN_VALUE, Integer.MAX_VALUE};
            for (int event : none) {
                Check.refusedPlace(x, "event " + event + " of " + size, () -> x.event(event, 0));
            }
        }
        Doc.says("`what`: 0 its kind, 1 its number, 2 its firing");
        Edges.range("what of event", 0, 2, Edges.ARGUMENT, (y, v) -> {
            Steps.fire(y, y.events() > 0 ? 0 : 1, 3000, 80, 20000);
            return y.event(0, v);
        });
        Doc.says("Returns that value.");
        KnockControl y = new KnockControl();
        Steps.fire(y, 2, 3000, 80, 200);
        y.fire(3000, 80, 551);
        Check.due("its kind", 0, y.event(0, 0));
        Check.due("its number", 2, y.event(0, 1));
        Check.due("its firing", 2, y.event(0, 2));
        Steps.fire(y, 20, 3000, 80, 0);
        Check.due("kind of the second", 1, y.event(1, 0));
        Check.due("number of the second", 0, y.event(1, 1));
        Check.due("firing of the second", 22, y.event(1, 2));
        Doc.says("Throws `IndexOutOfBoundsException` if there is no such event");
        KnockControl none = new KnockControl();
        Check.refusedPlace(none, "event(0, 0) of none", () -> none.event(0, 0));
        Check.refusedPlace(y, "event(2, 0) of two", () -> y.event(2, 0));
        Check.refusedPlace(y, "event(-1, 0)", () -> y.event(-1, 0));
        y.begin(4);
        Check.refusedPlace(y, "event(0, 0) after begin(4)", () -> y.event(0, 0));
        Doc.says("Throws `IllegalArgumentException` if what is out of range");
        y.undo();
        Check.refusedArgument(y, "event(1, 3)", () -> y.event(1, 3));
        Check.refusedArgument(y, "event(0, -1)", () -> y.event(0, -1));
    }

    private static void eventsOf() {
        Doc.open("Promise 22");
        Doc.says("Counts the events of a kind in the log.");
        Edges.onlyLooks("eventsOf(0)", (x, v) -> x.eventsOf(0));
        Doc.says("`kind`: 0 to 4");
        Edges.range("eventsOf", 0, 4, Edges.ARGUMENT, (x, v) -> x.eventsOf(v));
        Doc.says("Returns their number.");
        KnockControl x = new KnockControl();
        dueEventsOf("at first", x, 0, 0, 0, 0, 0);
        x.begin(2);
        x.set(1, 50);
        x.set(5, 1);
        // Firings 0 to 4 knock; with firings 2 and 4 the retard of the cell is learned.
        Steps.fire(x, 5, 3000, 80, 551);
        dueEventsOf("after five knocks", x, 5, 0, 0, 2, 0);
        x.teach(0, 0, 9);
        x.begin(2);
        x.teach(0, 0, 9);
        Steps.fire(x, 7, 500, 0, 200);
        dueEventsOf("after seven quiet ones", x, 0, 0, 0, 0, 3);
        Steps.fire(x, 20, 1500, 0, 0);
        Steps.fire(x, 50, 2500, 0, 200);
        Steps.fire(x, 20, 1500, 0, 0);
        dueEventsOf("after two faults", x, 0, 2, 1, 0, 3);
        x.begin(2);
        x.set(5, 500);
        Steps.makeFaulty(x);
        Steps.fire(x, 50, 3000, 80, 200);
        Steps.fire(x, 58, 3000, 80, 20000);
        dueEventsOf("in a full log", x, 58, 1, 1, 0, 0);
        x.fire(3000, 80, 20000);
        dueEventsOf("without the oldest one", x, 59, 0, 1, 0, 0);
        x.fire(3000, 80, 20000);
        dueEventsOf("without the next one", x, 60, 0, 0, 0, 0);
        Doc.says("Throws `IllegalArgumentException` if kind is out of range");
        Check.refusedArgument(x, "eventsOf(-1)", () -> x.eventsOf(-1));
        Check.refusedArgument(x, "eventsOf(5)", () -> x.eventsOf(5));
    }

    private static void dueEventsOf(String when, KnockControl x, int... due) {
        for (int kind = 0; kind < due.length; kind++) {
            Check.due("eventsOf(" + kind + ") " + when, due[kind], x.eventsOf(kind));
        }
    }

    private static void limit() {
        Doc.open("Promise 23");
        Doc.says("Returns the knock limit of the model, or how much the advance of a cylinder exceeds it.");
        Edges.onlyLooks("limit(0, 3000, 80, 95)", (x, v) -> x.limit(0, 3000, 80, 95));
        Edges.onlyLooks("limit(NONE, 3000, 80, 95)", (x, v) -> x.limit(KnockControl.NONE, 3000, 80, 95));
        Doc.says("`cylinder`: a cylinder, or NONE for the knock limit alone");
        Edges.range("cylinder of limit", -1, 3, Edges.PLACE, (x, v) -> x.limit(v, 3000, 80, 95));
        Doc.says("`speed`: 500 to 7000");
        Edges.range("speed of limit", 500, 7000, Edges.ARGUMENT, (x, v) -> x.limit(0, v, 0, 110));
        Edges.range("speed of limit of NONE", 500, 7000, Edges.ARGUMENT, (x, v) -> x.limit(-1, v, 0, 110));
        Doc.says("`load`: 0 to 100");
        Edges.range("load of limit", 0, 100, Edges.ARGUMENT, (x, v) -> x.limit(3, 7000, v, 80));
        Edges.range("load of limit of NONE", 0, 100, Edges.ARGUMENT, (x, v) -> x.limit(-1, 7000, v, 80));
        Doc.says("`octane`: 80 to 110");
        Edges.range("octane of limit", 80, 110, Edges.ARGUMENT, (x, v) -> x.limit(0, 500, 100, v));
        Edges.range("octane of limit of NONE", 80, 110, Edges.ARGUMENT, (x, v) -> x.limit(-1, 500, 100, v));
        Doc.says("Returns the knock limit, or the advance of the cylinder minus it.");
        KnockControl x = new KnockControl();
        Check.due("the knock limit alone", 80, x.limit(KnockControl.NONE, 3000, 80, 95));
        Check.due("an advance that is the limit", 0, x.limit(0, 3000, 80, 95));
        Check.due("an advance above it", 8, x.limit(0, 3000, 80, 94));
        Check.due("an advance below it", -8, x.limit(0, 3000, 80, 96));
        x.fire(3000, 80, 20000);
        x.teach(2, 3, 5);
        Check.due("less 40 and 5", -45, x.limit(0, 3000, 80, 95));
        Check.due("less 5", -5, x.limit(3, 3000, 80, 95));
        Check.due("the knock limit alone stays", 80, x.limit(KnockControl.NONE, 3000, 80, 95));
        Steps.makeFaulty(x);
        Check.due("less 60 and 5", -65, x.limit(3, 3000, 80, 95));
    }

    private static void limitRefused() {
        KnockControl x = new KnockControl();
        x.begin(2);
        Doc.says("Throws `IndexOutOfBoundsException` if there is no such cylinder");
        Check.due("cylinder 1 of 2", 0, x.limit(1, 3000, 80, 95));
        Check.refusedPlace(x, "cylinder 2 of 2", () -> x.limit(2, 3000, 80, 95));
        Check.refusedPlace(x, "cylinder -2", () -> x.limit(-2, 3000, 80, 95));
        Doc.says("Throws `IllegalArgumentException` if speed, load or octane is out of range");
        Check.refusedArgument(x, "speed 7001", () -> x.limit(1, 7001, 80, 95));
        Check.refusedArgument(x, "load -1", () -> x.limit(1, 3000, -1, 95));
        Check.refusedArgument(x, "octane 79", () -> x.limit(1, 3000, 80, 79));
        Check.refusedArgument(x, "octane 111 of NONE", () -> x.limit(KnockControl.NONE, 3000, 80, 111));
    }

    private static void quietAfter() {
        Doc.open("Promise 24");
        Doc.says("Tells how long it would take until the engine is quiet: on a copy of the present state, model "
            + "firings are treated until as many in a row as there are 5 cycles (5 times the number of cylinders) "
            + "have not knocked, or 1000 have been treated.");
        for (int cylinders = 2; cylinders <= 8; cylinders++) {
            KnockControl x = new KnockControl();
            x.begin(cylinders);
            Check.due("quiet at once with " + cylinders, 5 * cylinders, x.quietAfter(3000, 80, 110));
            int[] octanes = {80, 84, 88, 92, 93};
            for (int octane : octanes) {
                x.seed(octane);
                int answer = x.quietAfter(3000, 80, octane);
                Check.due("as driven, " + octane, driven(x, cylinders, octane), answer);
                Check.due("and not before a knock", true, answer == -1 || answer >= 5 * cylinders);
            }
        }
        KnockControl x = new KnockControl();
        Steps.fire(x, 19, 3000, 80, 200);
        Check.due("firings from before do not count", 20, x.quietAfter(3000, 80, 110));
        Doc.says("The state does not change.");
        Edges.onlyLooks("quietAfter(3000, 80, 84)", (y, v) -> y.quietAfter(3000, 80, 84));
        Edges.onlyLooks("quietAfter(3000, 80, 110)", (y, v) -> y.quietAfter(3000, 80, 110));
        Doc.says("`speed`: 500 to 7000");
        Edges.range("speed of quietAfter", 500, 7000, Edges.ARGUMENT, (y, v) -> y.quietAfter(v, 50, 95));
        Doc.says("`load`: 0 to 100");
        Edges.range("load of quietAfter", 0, 100, Edges.ARGUMENT, (y, v) -> y.quietAfter(3000, v, 95));
        Doc.says("`octane`: 80 to 110");
        Edges.range("octane of quietAfter", 80, 110, Edges.ARGUMENT, (y, v) -> y.quietAfter(3000, 50, v));
        Doc.says("Throws `IllegalArgumentException` if an argument is out of range");
        Check.refusedArgument(x, "speed 499", () -> x.quietAfter(499, 0, 80));
        Check.refusedArgument(x, "load 101", () -> x.quietAfter(500, 101, 80));
        Check.refusedArgument(x, "octane 79", () -> x.quietAfter(500, 0, 79));
    }

    /** The number of firings until the engine is quiet, driven one by one on another object. */
    private static int driven(KnockControl like, int cylinders, int octane) {
        KnockControl x = new KnockControl();
        x.begin(cylinders);
        x.seed(octane);
        Check.due("the same state", like.value(8), x.value(8));
        int latestKnock = 0;
        for (int i = 1; i <= 1000; i++) {
            latestKnock = x.drive(3000, 80, octane, 1) == 1 ? i : latestKnock;
            if (i - latestKnock == 5 * cylinders) {
                return i;
            }
        }
        return -1;
    }

    private static void quietAfterEdges() {
        Doc.says("Returns the number of firings up to the end of these 5 cycles; NONE if 1000 were not enough.");
        KnockControl x = new KnockControl();
        x.set(0, 16);
        x.set(1, 1);
        x.set(2, 1);
        x.drive(3000, 80, 92, 106);
        Check.due("quiet with the firing 1001", KnockControl.NONE, x.quietAfter(3000, 80, 92));
        x.drive(3000, 80, 92, 1);
        Check.due("quiet with the firing 1000", 1000, x.quietAfter(3000, 80, 92));
        x.drive(3000, 80, 92, 1);
        Check.due("quiet with the firing 999", 999, x.quietAfter(3000, 80, 92));
        x.drive(3000, 80, 92, 979);
        Check.due("all quiet", 20, x.quietAfter(3000, 80, 92));
        KnockControl faulty = new KnockControl();
        Steps.makeFaulty(faulty);
        Check.due("49 are not heard", 20, faulty.quietAfter(7000, 100, 80));
        KnockControl broken = new KnockControl();
        broken.breakSensor(true);
        Check.due("of a broken sensor", 20, broken.quietAfter(7000, 100, 80));
        KnockControl never = new KnockControl();
        never.set(3, 20);
        never.set(2, 1);
        Check.due("never quiet", KnockControl.NONE, never.quietAfter(7000, 100, 80));
    }

    private static void lowestOctane() {
        Doc.open("Promise 25");
        Doc.says("Finds the lowest octane number with which none of the next model firings would knock.");
        // From 98 on k is 0 for all speeds and loads: with 98 the energy is 488 here, with 97 it is 584.
        Check.due("the greatest answer", 98, new KnockControl().lowestOctane(7000, 100, 1));
        KnockControl x = new KnockControl();
        // k is 16 with 93, 24 with 92: the energies are 268 + 192 and 268 + 288.
        Check.due("of one firing", 93, x.lowestOctane(3000, 80, 1));
        x.teach(2, 3, 1);
        Check.due("of one firing with less advance", 92, x.lowestOctane(3000, 80, 1));
        x.teach(2, 3, 100);
        Check.due("of one firing with least advance", 80, x.lowestOctane(3000, 80, 1));
        Doc.says("The state does not change.");
        Edges.onlyLooks("lowestOctane(3000, 80, 100)", (y, v) -> y.lowestOctane(3000, 80, 100));
        Doc.says("`speed`: 500 to 7000");
        Edges.range("speed of lowestOctane", 500, 7000, Edges.ARGUMENT, (y, v) -> y.lowestOctane(v, 50, 1));
        Doc.says("`load`: 0 to 100");
        Edges.range("load of lowestOctane", 0, 100, Edges.ARGUMENT, (y, v) -> y.lowestOctane(3000, v, 1));
        Doc.says("`count`: 1 to 100, the number of firings");
        Edges.range("count of lowestOctane", 1, 100, Edges.ARGUMENT, (y, v) -> y.lowestOctane(3000, 80, v));
        KnockControl later = new KnockControl();
        later.seed(7);
        // r is 4, 6, 28, 34: with 92 it takes an r above 32 to knock.
        Check.due("of three firings", 92, later.lowestOctane(3000, 80, 3));
        Check.due("of four firings", 93, later.lowestOctane(3000, 80, 4));
        Doc.says("Returns the octane number, 80 to 110; NONE if there is none.");
        KnockControl low = new KnockControl();
        low.set(0, 16);
        Check.due("none", KnockControl.NONE, low.lowestOctane(7000, 100, 1));
        low.breakSensor(true);
        Check.due("all", 80, low.lowestOctane(7000, 100, 100));
        KnockControl faulty = new KnockControl();
        faulty.set(0, 16);
        Steps.makeFaulty(faulty);
        Check.due("49 that are not heard", 80, faulty.lowestOctane(7000, 100, 49));
        Check.due("and one that is", KnockControl.NONE, faulty.lowestOctane(7000, 100, 50));
        Doc.says("Throws `IllegalArgumentException` if an argument is out of range");
        Check.refusedArgument(x, "count 0", () -> x.lowestOctane(500, 0, 0));
        Check.refusedArgument(x, "count 101", () -> x.lowestOctane(500, 0, 101));
        Check.refusedArgument(x, "speed 7001", () -> x.lowestOctane(7001, 0, 1));
        Check.refusedArgument(x, "load -1", () -> x.lowestOctane(500, -1, 1));
    }

    private static void append() {
        Doc.open("Promise 26");
        Doc.says("Appends a byte to the firing text.");
        KnockControl x = new KnockControl();
        Steps.write(x, "3000 80 551");
        Check.due("the text so far", -21, x.replay());
        x.append(';');
        Check.due("the text then", 1, x.replay());
        x.append(';');
        Check.due("the text at last", -22, x.replay());
        Edges.changesOnly("append('5')", (z, v) -> z.append('5'));
        Edges.leaves("append('5')", (z, v) -> z.append('5'), 13, Edges.richS(), 0, 3);
        Doc.says("`value`: the byte, 0 to 127");
        Edges.range("append", 0, 127, Edges.ARGUMENT, (y, v) -> y.append(v));
        Doc.says("Returns the new length of the text.");
        KnockControl y = new KnockControl();
        for (int length = 1; length <= 120; length++) {
            Check.due("append " + length, length, y.append(length % 128));
        }
        Doc.says("Throws `IllegalArgumentException` if value is out of range");
        Check.refusedArgument(x, "append(-1)", () -> x.append(-1));
        Check.refusedArgument(x, "append(128)", () -> x.append(128));
        Doc.says("Throws `IllegalStateException` if the text has 120 bytes");
        Check.refusedState(y, "append 121", () -> y.append(0));
        Check.refusedState(y, "append 121 again", () -> y.append(127));
        Check.due("the length stays", 120, y.clearText());
        Check.due("append after clearText()", 1, y.append(0));
    }

    private static void clearText() {
        Doc.open("Promise 27");
        Doc.says("Empties the firing text.");
        KnockControl x = new KnockControl();
        Steps.write(x, "3000 80 551;x");
        x.clearText();
        Check.due("no firings", 0, x.replay());
        x.undo();
        Steps.write(x, "500 0 0;");
        Check.due("one firing", 1, x.replay());
        x.undo();
        Check.refusedState(x, "clearText() is not undoable", x::undo);
        Edges.changesOnly("clearText()", (z, v) -> z.clearText());
        Edges.leaves("clearText()", (z, v) -> z.clearText(), 0, Edges.richS(), 0, 3);
        Doc.says("Returns the length that it had.");
        Check.due("of 8", 8, x.clearText());
        Check.due("of none", 0, x.clearText());
        x.append('5');
        Check.due("of one", 1, x.clearText());
        for (int i = 0; i < 120; i++) {
            x.append(';');
        }
        Check.due("of a full text", 120, x.clearText());
        Check.due("of none then", 0, x.clearText());
    }

    private static void replay() {
        Doc.open("Promise 28");
        Doc.says("Treats the firings of the text one after the other.");
        KnockControl x = new KnockControl();
        KnockControl y = new KnockControl();
        Steps.write(x, "3000 80 551;500 0 0;7000 100 20000;2500 25 1000;3499 49 604;");
        x.replay();
        x.clearText();
        y.fire(3000, 80, 551);
        y.fire(500, 0, 0);
        y.fire(7000, 100, 20000);
        y.fire(2500, 25, 1000);
        y.fire(3499, 49, 604);
        // The number of saved states is hashed last: it is 1 and 4.
        Check.due("as if they were fired", y.digest() - 4, x.digest() - 1);
        Doc.says("The text stays as it is.");
        Steps.write(x, "500 0 0;");
        Check.due("replay()", 1, x.replay());
        Check.due("replay() again", 1, x.replay());
        Check.due("its length", 8, x.clearText());
        Doc.says("Undoable, if all are treated.");
        Edges.undoable("replay()", (z, v) -> z.replay());
        String[] untreated = {"500 0 0", "500 0 0;499 0 0;", "x"};
        for (String text : untreated) {
            KnockControl z = new KnockControl();
            Steps.write(z, text);
            z.replay();
            Check.refusedState(z, "undo() after " + text, z::undo);
        }
        KnockControl none = new KnockControl();
        none.replay();
        Check.due("all of none are treated", 0, none.undo());
        Doc.says("Returns the number of firings of the text; -10 minus the syntax error position if there is "
            + "a syntax error;");
        Check.due("no firings", 0, TextEdges.replay(""));
        Check.due("one firing", 1, TextEdges.replay("500 0 0;"));
        Check.due("fifteen firings", 15, TextEdges.replay("500 0 0;".repeat(15)));
        Check.due("an error at 0", -10, TextEdges.replay(";"));
        Check.due("an error at the end of one byte", -11, TextEdges.replay("5"));
        Check.due("an error at 119", -129, TextEdges.replay("500 0 0;".repeat(14) + "500 0 0 "));
        Check.due("an error at the end of 120 bytes", -130, TextEdges.replay("500 0 0;".repeat(14) + "500 0 00"));
    }

    private static void replayRange() {
        Doc.says("If a number of one of them is out of range, nothing is changed.");
        String[] wrong = {"499 0 0;", "7001 0 0;", "500 101 0;", "500 0 20001;", "0 0 0;", "500 0 99999;"};
        String[] right = {"500 0 0;", "7000 0 0;", "500 100 0;", "500 0 20000;", "00500 0 0;", "7000 00100 00000;"};
        for (int i = 0; i < wrong.length; i++) {
            KnockControl x = Edges.rich();
            x.clearText();
            Steps.write(x, "3000 80 551;" + wrong[i]);
            long before = x.digest();
            Check.due("replay() with " + wrong[i], -1001, x.replay());
            Check.due("nothing changes with " + wrong[i], before, x.digest());
            Check.due("the text stays with " + wrong[i], -1001, x.replay());
            Check.due("replay() with " + right[i], 2, TextEdges.replay("3000 80 551;" + right[i]));
        }
        Doc.says("-1000 minus the index of the first firing (from 0) with a number out of range.");
        Check.due("the first", -1000, TextEdges.replay("1 0 0;500 0 0;"));
        Check.due("the first of two", -1000, TextEdges.replay("1 0 0;1 0 0;"));
        Check.due("the second and the third", -1001, TextEdges.replay("500 0 0;1 0 0;500 101 0;"));
        Check.due("the last of fifteen", -1014, TextEdges.replay("500 0 0;".repeat(14) + "400 0 0;"));
        Check.due("the first of twenty", -1000, TextEdges.replay("1 0 0;".repeat(20)));
        Check.due("a syntax error behind it", -16, TextEdges.replay("1 0 0;x"));
        Check.due("a text that ends behind it", -17, TextEdges.replay("1 0 0;1"));
    }

    private static void undo() {
        Doc.open("Promise 29");
        Doc.says("Restores the most recently saved state and removes it from the saved states.");
        KnockControl x = new KnockControl();
        long[] digests = new long[4];
        Runnable[] calls = {
            () -> x.drive(3000, 80, 80, 100), () -> x.begin(8), () -> x.drive(3000, 80, 80, 77),
            () -> x.teach(5, 0, 9)};
        for (int i = 0; i < 4; i++) {
            digests[i] = x.digest();
            calls[i].run();
        }
        Doc.says("Returns the number of saved states that remain.");
        for (int i = 3; i >= 0; i--) {
            Check.due("undo() of call " + i, i, x.undo());
            Check.due("the state before call " + i, digests[i], x.digest());
        }
        Doc.says("Throws `IllegalStateException` if there is no saved state");
        Check.refusedState(x, "undo() of none", x::undo);
        KnockControl fresh = new KnockControl();
        Check.refusedState(fresh, "undo() of a new object", fresh::undo);
        for (int i = 0; i < 9; i++) {
            x.seed(i);
        }
        for (int i = 0; i < 4; i++) {
            x.undo();
        }
        Check.refusedState(x, "undo() of a fifth", x::undo);
        Check.due("s as it was four calls ago", 4, x.seed(1));
        Check.due("undo() then", 0, x.undo());
        Check.refusedState(x, "undo() is not undoable", x::undo);
    }

    private static void digest() {
        Doc.open("Promise 30");
        Doc.says("Returns a hash of the state.");
        Edges.onlyLooks("digest()", (x, v) -> x.digest());
        Doc.says("Start with h = 2969 and, for each of the following values v, set h = 31 * h + v: the length of "
            + "the text; value() for 0 to 8; firings(); next(); s; 1 or 0 for a broken sensor of the model; status() "
            + "for 0 to 4; for each cylinder the values of cylinder() for what = 0 to 4; the learned retards, row by "
            + "row; the number of events and, for each of them, the values of event() for what = 0 to 2; the number "
            + "of saved states.");
        for (int cylinders = 2; cylinders <= 8; cylinders++) {
            digestWith(cylinders);
            KnockControl x = fullLog(cylinders);
            x.seed(7);
            Check.due("events()", 60, x.events());
            Check.due("digest() of a full log", Edges.hash(x, 5, 7, 0, 4), x.digest());
            KnockControl y = fullLog(cylinders);
            int s = y.seed(7);
            y.undo();
            y.clearText();
            Check.due("digest() after undo", Edges.hash(y, 0, s, 0, 3), y.digest());
        }
        Doc.says("Returns the hash, with the overflow of long arithmetic ignored.");
        // 120 values and more: 31 to such a power is far above any long.
        Check.due("of a new object, as Java counts", Edges.hash(new KnockControl(), 0, 1, 0, 0), new KnockControl().digest());
    }

    private static void digestWith(int cylinders) {
        KnockControl x = new KnockControl();
        x.begin(cylinders);
        Check.due("digest() after begin", Edges.hash(x, 0, 1, 0, 1), x.digest());
        x.breakSensor(true);
        Steps.write(x, "12345");
        x.seed(999999);
        Check.due("digest() after seed", Edges.hash(x, 5, 999999, 1, 3), x.digest());
    }

    private static KnockControl fullLog(int cylinders) {
        KnockControl x = new KnockControl();
        x.begin(cylinders);
        Steps.write(x, "12345");
        x.teach(0, 3, 1);
        x.teach(5, 0, 2);
        x.drive(3000, 80, 80, 300);
        Steps.makeFaulty(x);
        return x;
    }
}
