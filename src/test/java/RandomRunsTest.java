import java.util.Random;

/** Long runs of calls, right and wrong ones, whose answers the program and the reference must share. */
public final class RandomRunsTest {
    private static final int RUNS = 3000;
    // What an object answers to later calls is free.
    private static final int CALLS = 512;
    // Of one make() and the digest() after it, which may write four pieces of text.
    private static final int MOST_AT_ONCE = 4 * 15 + 2;
    private static final int[] SPEEDS = {500, 1499, 1500, 2499, 2500, 3000, 5499, 5500, 6499, 6500, 7000};
    private static final int[] LOADS = {0, 24, 25, 49, 50, 74, 75, 80, 99, 100};
    private static final int[][] RANGES = {
        {16, 128}, {1, 50}, {1, 200}, {20, 200}, {0, 200}, {1, 500}, {0, 1000}, {0, 100}};
    private static final String[] TEXTS = {
        "500 0 0;", "7000 100 20000;", "3000 80 551;", "3000 80 5;", "03000 00 00009;", "499 0 0;",
        "7001 0 0;", "500 101 0;", "500 0 20001;", "1 ", ";", " ", "  ", "123456", "12345 ", "3000 80", ";;"};

    private final Random random;
    private final KnockControl x = new KnockControl();
    private final Reference y = new Reference();
    private int speed = 3000;
    private int load = 80;
    private Object got;
    private Object want;
    private String call;
    private int calls;

    private RandomRunsTest(long seed) {
        random = new Random(seed);
    }

    public static void main(String[] args) {
        for (int run = 0; run < RUNS; run++) {
            new RandomRunsTest(run).run(run);
        }
        Check.end();
    }

    private void run(int run) {
        int temper = random.nextInt(4);
        while (calls <= CALLS - MOST_AT_ONCE) {
            if (random.nextInt(12) == 0) {
                changeOperation();
            }
            calls++;
            try {
                make(temper == 0 ? random.nextInt(100) : choose(temper));
            } catch (RuntimeException e) {
                got = e.getClass().getName();
            }
            compare(run, calls, call, want, got);
            if (random.nextInt(4) == 0 || calls > CALLS - MOST_AT_ONCE) {
                calls++;
                long digest = x.digest();
                compare(run, calls, "digest() after " + call, y.digest(), digest);
            }
        }
    }

    private static void compare(int run, int i, String call, Object want, Object got) {
        Check.due("run " + run + ", call " + i + ": " + call + " (" + got + " for " + want + ")",
            true, want.equals(got));
    }

    /** Leaves out what would end a long steady run, for all tempers but the first. */
    private int choose(int temper) {
        int kind = random.nextInt(100);
        boolean upsets = kind < 3 || kind >= 8 && kind < 14 || kind >= 88;
        if (upsets && random.nextInt(3) > 0) {
            return temper == 3 ? 30 : 22 + random.nextInt(20);
        }
        return kind;
    }

    private void changeOperation() {
        speed = random.nextBoolean() ? SPEEDS[random.nextInt(SPEEDS.length)] : 500 + random.nextInt(6501);
        load = random.nextBoolean() ? LOADS[random.nextInt(LOADS.length)] : random.nextInt(101);
    }

    /** Seldom a value just outside, seldom an edge, otherwise any from least to most. */
    private int from(int least, int most) {
        int kind = random.nextInt(60);
        if (kind == 0) {
            return random.nextBoolean() ? least - 1 : most + 1;
        }
        if (kind == 1) {
            return random.nextBoolean() ? Integer.MIN_VALUE : Integer.MAX_VALUE;
        }
        if (kind < 8) {
            return random.nextBoolean() ? least : most;
        }
        return least + random.nextInt(most - least + 1);
    }

    private int speed() {
        return random.nextInt(40) == 0 ? from(500, 7000) : speed;
    }

    private int load() {
        return random.nextInt(40) == 0 ? from(0, 100) : load;
    }

    private int energy() {
        switch (random.nextInt(6)) {
            case 0:
                return from(0, 20000);
            case 1:
                return from(0, 20);
            case 2:
                int c = (Integer) y.next();
                return Math.min(20000, (Integer) y.cylinder(c, 3) + random.nextInt(4) - 1);
            default:
                return from(0, 1200);
        }
    }

    private void make(int kind) {
        if (kind < 22) {
            change(kind);
        } else if (kind < 45) {
            fireOrDrive(kind);
        } else if (kind < 75) {
            look(kind);
        } else if (kind < 88) {
            write(kind);
        } else {
            call = "undo()";
            want = y.undo();
            got = x.undo();
        }
    }

    private void change(int kind) {
        if (kind < 2) {
            int n = from(2, 8);
            call = "begin(" + n + ")";
            want = y.begin(n);
            got = x.begin(n);
        } else if (kind < 8) {
            int what = from(0, 7);
            int place = Math.max(0, Math.min(7, what));
            int value = from(RANGES[place][0], RANGES[place][1]);
            // A short steady time lets a run of 512 calls learn.
            value = what == 5 && random.nextInt(2) == 0 ? 1 + random.nextInt(10) : value;
            value = what == 6 && random.nextInt(2) == 0 ? random.nextInt(20) : value;
            set(what, value);
        } else if (kind < 14) {
            int row = from(0, 5);
            int column = from(0, 3);
            int retard = random.nextBoolean() ? from(0, 100) : from(0, 3);
            call = "teach(" + row + ", " + column + ", " + retard + ")";
            want = y.teach(row, column, retard);
            got = x.teach(row, column, retard);
        } else if (kind < 18) {
            boolean broken = random.nextInt(3) == 0;
            call = "breakSensor(" + broken + ")";
            want = y.breakSensor(broken);
            got = x.breakSensor(broken);
        } else {
            int seed = from(0, 999999);
            call = "seed(" + seed + ")";
            want = y.seed(seed);
            got = x.seed(seed);
        }
    }

    private void set(int what, int value) {
        call = "set(" + what + ", " + value + ")";
        want = y.set(what, value);
        got = x.set(what, value);
    }

    private void fireOrDrive(int kind) {
        int speed = speed();
        int load = load();
        if (kind < 38) {
            int energy = energy();
            call = "fire(" + speed + ", " + load + ", " + energy + ")";
            want = y.fire(speed, load, energy);
            got = x.fire(speed, load, energy);
        } else {
            int octane = from(80, 110);
            int count = random.nextInt(20) == 0 ? from(0, 1000) : from(0, 60);
            call = "drive(" + speed + ", " + load + ", " + octane + ", " + count + ")";
            want = y.drive(speed, load, octane, count);
            got = x.drive(speed, load, octane, count);
        }
    }

    private void look(int kind) {
        int a = from(0, 8);
        int b = from(0, 4);
        boolean one = random.nextBoolean();
        boolean other = random.nextBoolean();
        int octane = from(80, 110);
        switch (kind % 15) {
            case 0:
                call = "value(" + a + ")";
                want = y.value(a);
                got = x.value(a);
                break;
            case 1:
                call = "firings()";
                want = y.firings();
                got = x.firings();
                break;
            case 2:
                call = "next()";
                want = y.next();
                got = x.next();
                break;
            case 3:
                call = "cylinder(" + a + ", " + b + ")";
                want = y.cylinder(a, b);
                got = x.cylinder(a, b);
                break;
            case 4:
                call = "learned(" + a + ", " + b + ")";
                want = y.learned(a, b);
                got = x.learned(a, b);
                break;
            case 5:
                int speed = speed();
                int load = load();
                call = "angle(" + a + ", " + speed + ", " + load + ", " + one + ")";
                want = y.angle(a, speed, load, one);
                got = x.angle(a, speed, load, one);
                break;
            case 6:
                call = "status(" + b + ")";
                want = y.status(b);
                got = x.status(b);
                break;
            case 7:
                call = "unfairness()";
                want = y.unfairness();
                got = x.unfairness();
                break;
            case 8:
                call = "rateBits()";
                want = y.rateBits();
                got = x.rateBits();
                break;
            case 9:
                call = "octane(" + b + ")";
                want = y.octane(b);
                got = x.octane(b);
                break;
            case 10:
                call = "extreme(" + a + ", " + one + ", " + other + ")";
                want = y.extreme(a, one, other);
                got = x.extreme(a, one, other);
                break;
            case 11:
                call = "events()";
                want = y.events();
                got = x.events();
                break;
            case 12:
                int event = from(0, Math.max(0, (Integer) y.events() - 1));
                int what = from(0, 2);
                call = "event(" + event + ", " + what + ")";
                want = y.event(event, what);
                got = x.event(event, what);
                break;
            case 13:
                call = "eventsOf(" + b + ")";
                want = y.eventsOf(b);
                got = x.eventsOf(b);
                break;
            default:
                whatIf(from(-1, 8), octane);
                break;
        }
    }

    private void whatIf(int c, int octane) {
        int speed = speed();
        int load = load();
        switch (random.nextInt(3)) {
            case 0:
                call = "limit(" + c + ", " + speed + ", " + load + ", " + octane + ")";
                want = y.limit(c, speed, load, octane);
                got = x.limit(c, speed, load, octane);
                break;
            case 1:
                call = "quietAfter(" + speed + ", " + load + ", " + octane + ")";
                want = y.quietAfter(speed, load, octane);
                got = x.quietAfter(speed, load, octane);
                break;
            default:
                int count = from(1, 100);
                call = "lowestOctane(" + speed + ", " + load + ", " + count + ")";
                want = y.lowestOctane(speed, load, count);
                got = x.lowestOctane(speed, load, count);
                break;
        }
    }

    private void write(int kind) {
        if (kind < 77) {
            int value = from(0, 127);
            call = "append(" + value + ")";
            want = y.append(value);
            got = x.append(value);
        } else if (kind < 80) {
            call = "clearText()";
            want = y.clearText();
            got = x.clearText();
        } else if (kind < 84) {
            writeFirings();
        } else {
            call = "replay()";
            want = y.replay();
            got = x.replay();
        }
    }

    /** Some pieces one after the other, most of them whole firings, into a text that may be new. */
    private void writeFirings() {
        call = "appending";
        if (random.nextInt(3) > 0) {
            calls++;
            want = y.clearText();
            got = x.clearText();
        }
        int pieces = 1 + random.nextInt(4);
        for (int piece = 0; piece < pieces; piece++) {
            String text = TEXTS[random.nextInt(random.nextInt(4) > 0 ? 5 : TEXTS.length)];
            for (int i = 0; i < text.length(); i++) {
                calls++;
                call = "append of " + text.charAt(i) + " in " + text;
                want = y.append(text.charAt(i));
                got = x.append(text.charAt(i));
            }
        }
    }
}
