/** The sentences of the description on the firing text, undo and exceptions, and the constants. */
final class TextEdges {
    private static final String FIFTEEN = "500 0 1;500 0 2;500 0 3;500 0 4;500 0 5;500 0 6;500 0 7;500 0 8;"
        + "500 0 9;500 0 0;500 1 1;500 2 1;500 3 1;500 4 1;500 5 1;";

    private TextEdges() {
    }

    static void all() {
        Doc.open("Description");
        bytes();
        sequence();
        digits();
        noFirings();
        noOtherSpaces();
        positionOfAByte();
        positionOfTheEnd();
        saves();
        fourStates();
        savedState();
        exceptionsChangeNothing();
        firstException();
        constants();
    }

    static long replay(String text) {
        KnockControl x = new KnockControl();
        Steps.write(x, text);
        return x.replay();
    }

    private static void bytes() {
        Doc.says("Firing text. The text has at most 120 bytes.");
        KnockControl x = new KnockControl();
        Steps.write(x, FIFTEEN.substring(0, 119));
        Check.due("the byte 120", 120, x.append(';'));
        Check.refusedState(x, "a byte 121", () -> x.append(';'));
        Check.due("the text is whole", 15, x.replay());
        Check.due("its firings", 15, x.firings());
        Check.due("its last cell", 0, x.status(4));
        Check.due("its length", 120, x.clearText());
        Check.due("then there is room", 1, x.append('5'));
    }

    private static void sequence() {
        Doc.says("It is a sequence of firings, each given by speed, load and energy, "
            + "separated by exactly one space each, and a semicolon;");
        KnockControl x = new KnockControl();
        Steps.write(x, "3000 80 551;");
        Check.due("one firing", 1, x.replay());
        Check.due("speed and load", 11, x.status(4));
        Check.due("the energy knocks", 10, x.cylinder(0, 0));
        Check.due("two firings", 2, replay("3000 80 551;500 0 0;"));
        Check.due("two numbers", -17, replay("3000 80;"));
        Check.due("four numbers", -21, replay("3000 80 551 7;"));
        Check.due("no semicolon between", -22, replay("3000 80 5510 500 0 0;"));
        Check.due("no semicolon at the end", -21, replay("3000 80 551"));
        Check.due("two semicolons", -22, replay("3000 80 551;;"));
        Check.due("two spaces", -15, replay("3000  80 551;"));
        Check.due("a tabulator", -14, replay("3000\t80 551;"));
        Check.due("a semicolon for a space", -14, replay("3000;80 551;"));
        Check.due("a space for a semicolon", -21, replay("3000 80 551 "));
    }

    private static void digits() {
        Doc.says("numbers have one to five digits;");
        Check.due("one digit each", -1000, replay("1 2 3;"));
        Check.due("no digit first", -10, replay(" 80 551;"));
        Check.due("no digit in the middle", -15, replay("3000  551;"));
        Check.due("no digit at last", -18, replay("3000 80 ;"));
        Check.due("five digits each", 1, replay("03000 00080 00551;"));
        Check.due("five digits, all 9", -1000, replay("99999 99999 99999;"));
        Check.due("six digits first", -15, replay("003000 80 551;"));
        Check.due("six digits in the middle", -20, replay("3000 000080 551;"));
        Check.due("six digits at last", -23, replay("3000 80 000551;"));
        Check.due("six zeros", -15, replay("000000 0 0;"));
        Check.due("a digit below 0", -10, replay("/ 80 551;"));
        Check.due("a digit above 9", -10, replay(": 80 551;"));
        Check.due("a sign", -10, replay("+3000 80 551;"));
        Check.due("a point", -14, replay("3000.0 80 551;"));
        for (char digit = '0'; digit <= '9'; digit++) {
            KnockControl x = new KnockControl();
            Steps.write(x, "3000 80 " + digit + "0" + digit + ";");
            Check.due("the digit " + digit, 1, x.replay());
            int energy = 101 * (digit - '0');
            boolean knocks = energy > 550;
            Check.due("its energy", knocks ? 51200 : 51200 + 16 * energy - 3200, x.cylinder(0, 1));
        }
    }

    private static void noFirings() {
        Doc.says("there can be no firings.");
        KnockControl x = new KnockControl();
        Check.due("replay() of no firings", 0, x.replay());
        Check.due("firings()", 0, x.firings());
        Steps.write(x, "3000 80 551;");
        x.clearText();
        Check.due("after clearText()", 0, x.replay());
        Check.due("firings() then", 0, x.firings());
    }

    private static void noOtherSpaces() {
        Doc.says("There are no other spaces.");
        Check.due("at first", -10, replay(" 3000 80 551;"));
        Check.due("within a number", -18, replay("3 000 80 551;"));
        Check.due("before a semicolon", -21, replay("3000 80 551 ;"));
        Check.due("after a semicolon", -22, replay("3000 80 551; 500 0 0;"));
        Check.due("at last", -22, replay("3000 80 551; "));
        Check.due("alone", -10, replay(" "));
        Check.due("a new line after a semicolon", -22, replay("3000 80 551;\n"));
    }

    private static void positionOfAByte() {
        Doc.says("The syntax error position is the index of the first byte that cannot stand where it stands "
            + "(a sixth digit, too),");
        Check.due("the first byte", -10, replay("x"));
        Check.due("the first of two", -10, replay("xx"));
        Check.due("the byte 0", -10, replay("\0"));
        Check.due("the byte 127", -11, replay("3\177"));
        Check.due("a sixth digit", -15, replay("123456"));
        Check.due("a sixth and a seventh digit", -15, replay("1234567"));
        Check.due("after a number out of range", -24, replay("99999 99999 1;x"));
        KnockControl x = new KnockControl();
        Steps.write(x, FIFTEEN.substring(0, 119));
        x.append(' ');
        Check.due("the last byte of a full text", -129, x.replay());
        String right = "3000 80 551;7 1 23456;";
        for (int i = 0; i < right.length(); i++) {
            for (char sign = 0; sign < 128; sign++) {
                if ("0123456789 ;".indexOf(sign) < 0) {
                    String text = right.substring(0, i) + sign + right.substring(i + 1);
                    Check.due("byte " + (int) sign + " at " + i, -10 - i, replay(text));
                }
            }
        }
    }

    private static void positionOfTheEnd() {
        Doc.says("or the length of the text if the text ends too early.");
        String right = "3000 80 551;12345 7 20000;";
        for (int length = 0; length < right.length(); length++) {
            long due = length == 0 ? 0 : length == 12 ? 1 : -10 - length;
            Check.due("the first " + length + " bytes", due, replay(right.substring(0, length)));
        }
        Check.due("five digits at the end", -15, replay("12345"));
        Check.due("a full text", -130, replay(FIFTEEN.substring(0, 112) + "500 0 10"));
        Check.due("a full text with a space at the end", -130, replay(FIFTEEN.substring(0, 112) + "50000 0 "));
    }

    // ---- undo

    /** The undoable calls, each such that a new object is not changed; fire is not among them. */
    private static long changeNothing(KnockControl x, int kind) {
        switch (kind) {
            case 0:
                return x.begin(4);
            case 1:
                return x.set(2, 20);
            case 2:
                return x.teach(1, 1, 0);
            case 3:
                return x.breakSensor(false) ? 1 : 0;
            case 4:
                return x.seed(1);
            case 5:
                return x.drive(3000, 80, 95, 0);
            default:
                return x.replay();
        }
    }

    private static void saves() {
        Doc.says("Undo. Each successful call of a method whose description says \"undoable\" saves the state "
            + "from before the call, even if the call changes nothing;");
        for (int kind = 0; kind <= 6; kind++) {
            KnockControl x = new KnockControl();
            long before = x.digest();
            changeNothing(x, kind);
            // The number of saved states is hashed last.
            Check.due("kind " + kind + " changes nothing else", before + 1, x.digest());
            Check.due("kind " + kind + " is kept", 0, x.undo());
            Check.due("kind " + kind + " is undone", before, x.digest());
            KnockControl y = new KnockControl();
            y.set(7, 1);
            changeNothing(y, kind);
            changeNothing(y, kind);
            Check.due("a second one is kept, too", 2, y.undo());
        }
        KnockControl refused = new KnockControl();
        Check.refusedArgument(refused, "set(7, 101)", () -> refused.set(7, 101));
        Check.refusedState(refused, "undo() after a call without success", refused::undo);
    }

    private static void fourStates() {
        Doc.says("at most 4 states are saved, and the oldest is dropped first.");
        for (int calls = 1; calls <= 13; calls++) {
            KnockControl x = new KnockControl();
            for (int i = 1; i <= calls; i++) {
                x.set(7, i);
            }
            int saved = Math.min(4, calls);
            for (int i = 1; i <= saved; i++) {
                Check.due("undo() " + i + " of " + calls, saved - i, x.undo());
                Check.due("value(7) then", calls == i ? 60 : calls - i, x.value(7));
            }
            Check.refusedState(x, "one undo() more of " + calls, x::undo);
        }
        KnockControl x = new KnockControl();
        for (int i = 1; i <= 4; i++) {
            x.set(7, i);
        }
        x.undo();
        x.undo();
        x.set(7, 11);
        x.set(7, 12);
        x.set(7, 13);
        int[] due = {12, 11, 2, 1};
        for (int i = 0; i < 4; i++) {
            Check.due("undo() after undo() and more", 3 - i, x.undo());
            Check.due("its value", due[i], x.value(7));
        }
    }

    private static void savedState() {
        Doc.says("The saved state contains everything except the firing text.");
        KnockControl x = Edges.rich();
        long before = x.digest();
        x.begin(7);
        x.clearText();
        Check.due("undo() of begin", 3, x.undo());
        Steps.write(x, "123456789012");
        Check.due("everything is back, the text is as long", before, x.digest());
        Check.due("and is not the old one", -15, x.replay());
        x.clearText();
        Steps.write(x, "3000 80 300;");
        x.fire(3000, 80, 300);
        x.append('5');
        x.undo();
        Check.due("a text longer than before", 13, x.clearText());
        KnockControl y = Edges.rich();
        Check.due("a log whose oldest events were dropped", true, y.events() == 60 && y.event(0, 2) > 0);
        before = y.digest();
        y.drive(3000, 80, 80, 1000);
        Check.due("undo() of a drive", 3, y.undo());
        Check.due("the whole log is back", before, y.digest());
    }

    // ---- exceptions

    /** A refused call of each kind, those of methods that only look, too. */
    private static void refuse(KnockControl x, int kind) {
        Check.Call[] calls = {
            () -> x.begin(1), () -> x.set(8, 20), () -> x.set(3, 19), () -> x.value(9), () -> x.teach(6, 0, 1),
            () -> x.teach(0, 0, 101), () -> x.seed(-1), () -> x.fire(499, 0, 0), () -> x.drive(500, 0, 79, 1),
            () -> x.drive(500, 0, 95, 1001), () -> x.cylinder(8, 0), () -> x.cylinder(0, 5),
            () -> x.learned(0, 4), () -> x.angle(8, 500, 0, true), () -> x.angle(0, 499, 0, true),
            () -> x.status(5), () -> (long) x.octane(4), () -> x.extreme(6, true, true),
            () -> x.event(60, 0), () -> x.eventsOf(5), () -> x.limit(8, 500, 0, 95),
            () -> x.limit(0, 500, 0, 111), () -> x.quietAfter(500, 101, 95), () -> x.lowestOctane(500, 0, 0),
            () -> x.append(128)};
        Check.Call call = calls[kind];
        Class<? extends RuntimeException> due = Edges.ARGUMENT;
        int[] places = {4, 10, 12, 13, 16, 17, 18, 20};
        for (int place : places) {
            due = place == kind ? Edges.PLACE : due;
        }
        Check.refused(x, "refused call " + kind, due, call);
    }

    private static void exceptionsChangeNothing() {
        Doc.says("Exceptions. A call that throws an exception changes nothing.");
        for (int kind = 0; kind < 25; kind++) {
            KnockControl x = Edges.rich();
            x.set(7, 33);
            KnockControl y = Edges.rich();
            y.set(7, 33);
            refuse(x, kind);
            refuse(x, kind);
            for (int i = 3; i >= 0; i--) {
                Check.due("undo() after refused call " + kind, i, x.undo());
                y.undo();
                Check.due("saved state " + i + " after refused call " + kind, y.digest(), x.digest());
            }
            Check.refusedState(x, "a fifth undo()", x::undo);
            Check.due("the text stays", y.replay(), x.replay());
            Check.due("and is treated", y.digest(), x.digest());
        }
        KnockControl full = new KnockControl();
        Steps.write(full, FIFTEEN);
        Check.refusedState(full, "append to a full text", () -> full.append('7'));
        Check.due("the full text stays", 15, full.replay());
    }

    private static void firstException() {
        Doc.says("If several exceptions apply, the one that is listed first is thrown.");
        KnockControl x = new KnockControl();
        Steps.write(x, FIFTEEN);
        Check.refusedPlace(x, "teach: no cell, retard 101", () -> x.teach(6, 0, 101));
        Check.refusedPlace(x, "teach: no cell, retard -1", () -> x.teach(0, -1, -1));
        Check.refusedPlace(x, "cylinder: no cylinder, what 5", () -> x.cylinder(4, 5));
        Check.refusedPlace(x, "cylinder: no cylinder, what -1", () -> x.cylinder(-1, -1));
        Check.refusedPlace(x, "angle: no cylinder, speed 499", () -> x.angle(4, 499, 0, true));
        Check.refusedPlace(x, "angle: no cylinder, load 101", () -> x.angle(-1, 500, 101, false));
        Check.refusedPlace(x, "event: no event, what 3", () -> x.event(0, 3));
        Check.refusedPlace(x, "event: no event, what -1", () -> x.event(-1, -1));
        Check.refusedPlace(x, "limit: no cylinder, speed 7001", () -> x.limit(4, 7001, 0, 95));
        Check.refusedPlace(x, "limit: no cylinder, load -1", () -> x.limit(-2, 500, -1, 95));
        Check.refusedPlace(x, "limit: no cylinder, octane 79", () -> x.limit(8, 500, 0, 79));
        Check.refusedArgument(x, "append: value 128, a full text", () -> x.append(128));
        Check.refusedArgument(x, "append: value -1, a full text", () -> x.append(-1));
    }

    private static void constants() {
        Doc.says("The constants: - `NONE = -1`: There is no such thing.");
        Check.due("NONE", -1, KnockControl.NONE);
        Doc.says("The constructor and the methods follow, a promise each: the signature, then what it does.");
        KnockControl x = new KnockControl();
        Check.due("no cell", KnockControl.NONE, x.status(4));
        x.set(0, 16);
        Check.due("no such octane number", KnockControl.NONE, x.lowestOctane(7000, 100, 1));
    }
}
