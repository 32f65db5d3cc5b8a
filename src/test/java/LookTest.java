/** Promises 12 to 19: cylinder, learned, angle, status, unfairness, rateBits, octane, extreme. */
public final class LookTest {
    public static void main(String[] args) {
        cylinder();
        learned();
        angle();
        angleRefused();
        status();
        unfairness();
        rateBits();
        octane();
        extreme();
        Check.end();
    }

    // Promise 12
    private static void cylinder() {
        KnockControl x = new KnockControl();
        x.begin(3);
        x.fire(3000, 80, 551);
        x.fire(3000, 80, 550);
        int[] first = {10, 51200, 0, 550, 1};
        int[] second = {0, 56800, 1, 604, 0};
        for (int what = 0; what < 5; what++) {
            Check.due("cylinder(0, " + what + ")", first[what], x.cylinder(0, what));
            Check.due("cylinder(1, " + what + ")", second[what], x.cylinder(1, what));
        }
        x.set(0, 16);
        Check.due("threshold with gain 16", 56800 * 16 / 4096 + 50, x.cylinder(1, 3));
        x.set(0, 128);
        Check.due("threshold with gain 128", 1825, x.cylinder(1, 3));
        Check.due("cylinder(2, 1)", 51200, x.cylinder(2, 1));
        x.begin(3);
        for (int i = 0; i < 90; i++) {
            int c = x.next();
            Check.due("a firing at the threshold", 0, x.fire(3000, 80, Math.min(20000, x.cylinder(c, 3))));
            Check.due("the threshold then", x.cylinder(c, 1) * 128 / 4096 + 50, x.cylinder(c, 3));
        }
        Check.refusedPlace(x, "cylinder(-1, 0)", () -> x.cylinder(-1, 0));
        Check.refusedPlace(x, "cylinder(3, 0)", () -> x.cylinder(3, 0));
        Check.refusedPlace(x, "cylinder(max, 0)", () -> x.cylinder(Integer.MAX_VALUE, 0));
        Check.refusedPlace(x, "cylinder(3, 5)", () -> x.cylinder(3, 5));
        Check.refusedArgument(x, "cylinder(2, 5)", () -> x.cylinder(2, 5));
        Check.refusedArgument(x, "cylinder(0, -1)", () -> x.cylinder(0, -1));
    }

    /** Gives the cell in a row and column the learned retard 10 * row + column + 1. */
    private static KnockControl taught() {
        KnockControl x = new KnockControl();
        for (int row = 0; row < 6; row++) {
            for (int column = 0; column < 4; column++) {
                x.teach(row, column, 10 * row + column + 1);
            }
        }
        return x;
    }

    // Promise 13
    private static void learned() {
        KnockControl x = taught();
        for (int row = 0; row < 6; row++) {
            for (int column = 0; column < 4; column++) {
                Check.due("learned(" + row + ", " + column + ")", 10 * row + column + 1, x.learned(row, column));
            }
        }
        Check.refusedPlace(x, "learned(-1, 0)", () -> x.learned(-1, 0));
        Check.refusedPlace(x, "learned(6, 0)", () -> x.learned(6, 0));
        Check.refusedPlace(x, "learned(0, -1)", () -> x.learned(0, -1));
        Check.refusedPlace(x, "learned(1, -1)", () -> x.learned(1, -1));
        Check.refusedPlace(x, "learned(0, 4)", () -> x.learned(0, 4));
        Check.refusedPlace(x, "learned(5, 4)", () -> x.learned(5, 4));
    }

    // Promise 14
    private static void angle() {
        KnockControl x = taught();
        x.fire(3000, 80, 20000);
        Check.due("retard of cylinder 0", 40 + 24, x.angle(0, 3000, 80, false));
        Check.due("retard of cylinder 1", 24, x.angle(1, 3000, 80, false));
        Check.due("retard in the first cell", 41, x.angle(0, 500, 0, false));
        Check.due("retard in the last cell", 94, x.angle(0, 7000, 100, false));
        // 100 + 3000 / 50 - 80 - 64
        Check.due("advance of cylinder 0", 16, x.angle(0, 3000, 80, true));
        // 100 + 549 / 50 - 3 - 41: 10.98 is rounded down
        Check.due("advance at 549", 66, x.angle(0, 549, 3, true));
        Check.due("an advance below 0", 100 + 10 - 100 - 44, x.angle(0, 500, 100, true));
        x.set(3, 50);
        Check.due("at most the limit", 50, x.angle(0, 3000, 80, false));
        Check.due("in the advance, too", 30, x.angle(0, 3000, 80, true));
        x.set(3, 150);
        Steps.makeFaulty(x);
        Check.due("fixed and learned retard", 84, x.angle(0, 3000, 80, false));
        Check.due("of all cylinders", 84, x.angle(3, 3000, 80, false));
        x.set(7, 0);
        Check.due("learned retard alone", 24, x.angle(0, 3000, 80, false));
    }

    private static void angleRefused() {
        KnockControl x = new KnockControl();
        Check.due("angle(3, 7000, 100, false)", 0, x.angle(3, 7000, 100, false));
        Check.refusedPlace(x, "angle(-1, 3000, 80, false)", () -> x.angle(-1, 3000, 80, false));
        Check.refusedPlace(x, "angle(4, 3000, 80, true)", () -> x.angle(4, 3000, 80, true));
        Check.refusedPlace(x, "angle(4, 0, 0, true)", () -> x.angle(4, 0, 0, true));
        Check.refusedArgument(x, "angle(0, 499, 80, true)", () -> x.angle(0, 499, 80, true));
        Check.refusedArgument(x, "angle(0, 7001, 80, true)", () -> x.angle(0, 7001, 80, true));
        Check.refusedArgument(x, "angle(0, 500, -1, false)", () -> x.angle(0, 500, -1, false));
        Check.refusedArgument(x, "angle(0, 500, 101, false)", () -> x.angle(0, 500, 101, false));
    }

    // Promise 15
    private static void status() {
        KnockControl x = new KnockControl();
        Check.due("no latest firing", -1, x.status(4));
        Steps.fire(x, 3, 3000, 80, 300);
        Steps.fire(x, 2, 3000, 80, 0);
        int[] due = {0, 2, 0, 4, 11};
        for (int what = 0; what < 5; what++) {
            Check.due("status(" + what + ")", due[what], x.status(what));
        }
        Steps.fire(x, 18, 3000, 80, 0);
        Steps.fire(x, 3, 500, 0, 300);
        int[] then = {1, 0, 3, 2, 0};
        for (int what = 0; what < 5; what++) {
            Check.due("status(" + what + ") then", then[what], x.status(what));
        }
        Check.refusedArgument(x, "status(-1)", () -> x.status(-1));
        Check.refusedArgument(x, "status(5)", () -> x.status(5));
    }

    // Promise 16
    private static void unfairness() {
        KnockControl x = new KnockControl();
        Check.due("unfairness() at first", 0, x.unfairness());
        x.fire(3000, 80, 20000);
        Check.due("40 and 0", 40, x.unfairness());
        Steps.fire(x, 2, 3000, 80, 551);
        Check.due("the fourth has 0", 40, x.unfairness());
        x.fire(3000, 80, 551);
        Check.due("40 and 10", 30, x.unfairness());
        KnockControl y = new KnockControl();
        y.begin(8);
        Steps.fire(y, 7, 3000, 80, 551);
        Check.due("the last has 0", 10, y.unfairness());
        y.fire(3000, 80, 20000);
        Check.due("the last has most", 30, y.unfairness());
        y.begin(2);
        Check.due("anew", 0, y.unfairness());
        for (int one = 0; one < 5; one++) {
            Check.due("most has " + one, 40, unfairnessWith(one, 20000, 200));
            Check.due("least has " + one, 40, unfairnessWith(one, 200, 20000));
        }
    }

    /** One of five cylinders fires with an energy of its own. */
    private static int unfairnessWith(int one, int own, int others) {
        KnockControl x = new KnockControl();
        x.begin(5);
        for (int c = 0; c < 5; c++) {
            x.fire(3000, 80, c == one ? own : others);
        }
        return x.unfairness();
    }

    // Promise 17
    private static void rateBits() {
        KnockControl x = new KnockControl();
        Check.due("rateBits() at first", 0, x.rateBits());
        x.fire(3000, 80, 100);
        Check.due("rateBits() without a knock", 0, x.rateBits());
        x.begin(2);
        for (int i = 1; i <= 250; i++) {
            x.fire(3000, 80, 20000);
            Check.due("all of " + i, Float.floatToIntBits(1.0f), x.rateBits());
        }
        KnockControl some = new KnockControl();
        int knocked = 0;
        for (int i = 1; i <= 150; i++) {
            some.fire(3000, 80, i % 7 == 0 || i % 11 < 2 ? 20000 : 100);
            knocked += i % 7 == 0 || i % 11 < 2 ? 1 : 0;
            Check.due(knocked + " of " + i, Float.floatToIntBits((float) knocked / (float) i), some.rateBits());
        }
        KnockControl few = new KnockControl();
        few.fire(3000, 80, 20000);
        few.breakSensor(true);
        for (int i = 1; i <= 250; i++) {
            few.drive(3000, 80, 95, 1000);
            int all = 1000 * i + 1;
            Check.due("1 of " + all, Float.floatToIntBits(1.0f / (float) all), few.rateBits());
        }
    }

    // Promise 18
    private static void octane() {
        KnockControl x = new KnockControl();
        Check.dueDouble("octane(0) without any", 100.0, x.octane(0));
        x.teach(0, 0, 1);
        x.teach(5, 0, 2);
        x.teach(3, 0, 2);
        Check.dueDouble("octane(0) of three", 100.0 - 5.0 / 3.0 / 2.0, x.octane(0));
        Check.dueDouble("octane(1) without any", 100.0, x.octane(1));
        x.teach(2, 3, 100);
        Check.dueDouble("octane(3) of one", 50.0, x.octane(3));
        for (int row = 0; row < 6; row++) {
            x.teach(row, 2, 7 + row * row);
        }
        Check.dueDouble("octane(2) of six", 100.0 - 97.0 / 6.0 / 2.0, x.octane(2));
        Check.refusedPlace(x, "octane(-1)", () -> (long) x.octane(-1));
        Check.refusedPlace(x, "octane(4)", () -> (long) x.octane(4));
        Check.refusedPlace(x, "octane(min)", () -> (long) x.octane(Integer.MIN_VALUE));
    }

    // Promise 19
    private static void extreme() {
        KnockControl x = new KnockControl();
        int[][] retards = {{5, 9, 7, 0}, {1, 2, 3, 4}, {4, 3, 2, 1}, {50, 60, 70, 100}, {8, 8, 8, 8}, {6, 0, 99, 2}};
        for (int row = 0; row < 6; row++) {
            for (int column = 0; column < 4; column++) {
                x.teach(row, column, retards[row][column]);
            }
        }
        int[] rowMost = {9, 4, 4, 100, 8, 99};
        int[] rowLeast = {0, 1, 1, 50, 8, 0};
        for (int row = 0; row < 6; row++) {
            Check.due("greatest of row " + row, rowMost[row], x.extreme(row, true, true));
            Check.due("smallest of row " + row, rowLeast[row], x.extreme(row, true, false));
        }
        int[] columnMost = {50, 60, 99, 100};
        int[] columnLeast = {1, 0, 2, 0};
        for (int column = 0; column < 4; column++) {
            Check.due("greatest of column " + column, columnMost[column], x.extreme(column, false, true));
            Check.due("smallest of column " + column, columnLeast[column], x.extreme(column, false, false));
        }
        Check.refusedPlace(x, "extreme(-1, true, true)", () -> x.extreme(-1, true, true));
        Check.refusedPlace(x, "extreme(6, true, true)", () -> x.extreme(6, true, true));
        Check.refusedPlace(x, "extreme(-1, false, true)", () -> x.extreme(-1, false, true));
        Check.refusedPlace(x, "extreme(4, false, false)", () -> x.extreme(4, false, false));
        Check.refusedPlace(x, "extreme(5, false, false)", () -> x.extreme(5, false, false));
    }
}
