/** Promises 26 to 28: append, clearText, replay. */
public final class TextTest {
    public static void main(String[] args) {
        append();
        clearText();
        replayFirings();
        syntax();
        syntaxOfWholeTexts();
        range();
        fullText();
        Check.end();
    }

    // Promise 26
    private static void append() {
        KnockControl x = new KnockControl();
        long digest = x.digest();
        for (int i = 1; i <= 120; i++) {
            Check.due("append(" + (i + 7) + ")", i, x.append(i + 7));
        }
        Check.due("the length is hashed", true, x.digest() != digest);
        Check.refusedState(x, "append(0) to a full text", () -> x.append(0));
        Check.refusedState(x, "append(127) to a full text", () -> x.append(127));
        Check.refusedArgument(x, "append(128) to a full text", () -> x.append(128));
        Check.refusedState(x, "append is not undoable", x::undo);
        x.clearText();
        Check.refusedState(x, "clearText is not undoable", x::undo);
        Check.due("append(0)", 1, x.append(0));
        Check.due("append(127)", 2, x.append(127));
        Check.refusedArgument(x, "append(-1)", () -> x.append(-1));
        Check.refusedArgument(x, "append(128)", () -> x.append(128));
        Check.refusedArgument(x, "append(max)", () -> x.append(Integer.MAX_VALUE));
    }

    // Promise 27
    private static void clearText() {
        KnockControl x = new KnockControl();
        Check.due("clearText() of none", 0, x.clearText());
        Steps.write(x, "500 0 0;5");
        Check.due("clearText() of 9", 9, x.clearText());
        Check.due("clearText() again", 0, x.clearText());
        Steps.write(x, "5");
        Check.due("the text is new", -11, x.replay());
        x.clearText();
        Check.due("and empty", 0, x.replay());
        Check.due("append after it", 1, x.append('5'));
        x.set(0, 50);
        x.append('0');
        x.undo();
        Check.due("undo leaves the text", 2, x.clearText());
    }

    // Promise 28
    private static void replayFirings() {
        KnockControl x = new KnockControl();
        Check.due("replay() of no firing", 0, x.replay());
        Check.due("is kept", 0, x.undo());
        Steps.write(x, "3000 80 551;03000 080 00550;7000 100 20000;500 0 0;");
        Check.due("replay()", 4, x.replay());
        Check.due("firings()", 4, x.firings());
        Check.due("first", 10, x.cylinder(0, 0));
        Check.due("second", 56800, x.cylinder(1, 1));
        Check.due("third", 40, x.cylinder(2, 0));
        Check.due("fourth", 48000, x.cylinder(3, 1));
        Check.due("its cell", 0, x.status(4));
        Check.due("the text stays", 4, x.replay());
        Check.due("firings() then", 8, x.firings());
        Check.due("one undo for all four", 1, x.undo());
        Check.due("firings() after it", 4, x.firings());
        Check.due("and for the others", 0, x.undo());
        Check.due("firings() at last", 0, x.firings());
        Check.due("undo leaves the text", 51, x.clearText());
        KnockControl y = new KnockControl();
        y.fire(3000, 80, 551);
        y.fire(2999, 80, 550);
        y.fire(3001, 24, 700);
        Steps.write(x, "3000 80 551;2999 80 550;3001 24 700;");
        Check.due("replay() of three", 3, x.replay());
        x.clearText();
        Check.due("the second column", 8, x.status(4));
        // The number of saved states is hashed last: it is 1 and 3.
        Check.due("as if they were fired", y.digest() - 3, x.digest() - 1);
    }

    private static void syntax() {
        syntax("", -1);
        syntax("3", 1);
        syntax("30000", 5);
        syntax("300001", 5);
        syntax("30000 ", 6);
        syntax("3000  ", 5);
        syntax(" ", 0);
        syntax(";", 0);
        syntax("3;", 1);
        syntax("3000 80;", 7);
        syntax("3000 80 ;", 8);
        syntax("3000 80 551", 11);
        syntax("3000 80 55100", 13);
        syntax("3000 80 551000", 13);
        syntax("3000 800000 551;", 10);
        syntax("3000 80 551 ", 11);
        syntax("3000 80 551;;", 12);
        syntax("3000 80 551; ", 12);
        syntax("3000 80 551;3", 13);
        syntax("3000 80 551;3000 80", 19);
        syntax("3000 80 551;3000 80 55;x", 23);
        syntax("-3000 80 551;", 0);
        syntax("+3000 80 551;", 0);
        syntax("3000,80 551;", 4);
        syntax("3000 80 5.1;", 9);
        syntax("3000 80 551:", 11);
        syntax("3000 80 55/;", 10);
        syntax("3000\t80 551;", 4);
        syntax("3000 80 551;\n", 12);
        syntax("\0", 0);
        syntax("\177", 0);
    }

    private static void syntax(String text, int error) {
        KnockControl x = new KnockControl();
        Steps.write(x, text);
        long before = x.digest();
        if (error < 0) {
            Check.due("replay() of " + text, 0, x.replay());
            return;
        }
        Check.due("replay() of " + text, -10 - error, x.replay());
        Check.due("nothing changes, " + text, before, x.digest());
        Check.refusedState(x, "undo() after " + text, x::undo);
    }

    /** Each byte, put in the place of each byte of a right text. */
    private static void syntaxOfWholeTexts() {
        String right = "3000 80 5;12345 7 9;";
        for (int i = 0; i < right.length(); i++) {
            for (char sign = 0; sign < 128; sign++) {
                String text = right.substring(0, i) + sign + right.substring(i + 1);
                boolean digit = sign >= '0' && sign <= '9';
                boolean wasDigit = Character.isDigit(right.charAt(i));
                if (!digit && sign != ' ' && sign != ';') {
                    syntax(text, i);
                } else if (!wasDigit && !digit && sign != right.charAt(i)) {
                    syntax(text, i);
                }
            }
        }
    }

    private static void range() {
        range("3000 80 551;499 0 0;", 1);
        range("7001 0 0;", 0);
        range("500 0 0;500 101 0;99999 0 0;", 1);
        range("500 0 0;7000 100 20000;500 0 20001;", 2);
        range("0 0 0;", 0);
        range("99999 99999 99999;", 0);
        KnockControl x = new KnockControl();
        Steps.write(x, "499 0 0;1");
        Check.due("the syntax is looked at first", -19, x.replay());
        Steps.writeNew(x, "500 0 0;7000 100 20000;");
        Check.due("all in range", 2, x.replay());
    }

    private static void range(String text, int wrong) {
        KnockControl x = new KnockControl();
        Steps.write(x, text);
        long before = x.digest();
        Check.due("replay() of " + text, -1000 - wrong, x.replay());
        Check.due("nothing changes, " + text, before, x.digest());
        Check.due("the text stays, " + text, -1000 - wrong, x.replay());
    }

    private static void fullText() {
        KnockControl x = new KnockControl();
        for (int i = 0; i < 15; i++) {
            Steps.write(x, i < 14 ? "500 0 1;" : "500 0 7;");
        }
        Check.due("replay() of a full text", 15, x.replay());
        Check.due("its firings", 15, x.firings());
        Steps.writeNew(x, "500 0 0;");
        for (int i = 0; i < 18; i++) {
            Steps.write(x, "1 1 1;");
        }
        Check.due("replay() of many wrong firings", -1001, x.replay());
        x.clearText();
        for (int i = 0; i < 20; i++) {
            Steps.write(x, "1 1 1;");
        }
        Check.due("replay() of twenty", -1000, x.replay());
        x.clearText();
        for (int i = 0; i < 14; i++) {
            Steps.write(x, "500 0 1;");
        }
        Steps.write(x, "500 0 10");
        Check.due("a full text that ends too early", -130, x.replay());
    }
}
