import java.math.BigInteger;
import java.util.ArrayDeque;
import java.util.ArrayList;
import java.util.Arrays;
import java.util.Deque;
import java.util.List;
import java.util.regex.Matcher;
import java.util.regex.Pattern;

/**
 * The document a second time, told in other words and with the Java library:
 * RandomRunsTest holds the program against it. A refused call answers one of
 * the three exceptions as a text, every other call its answer.
 */
final class Reference {
    static final String ARGUMENT = "java.lang.IllegalArgumentException";
    static final String PLACE = "java.lang.IndexOutOfBoundsException";
    static final String STATE = "java.lang.IllegalStateException";
    private static final int[][] RANGES = {
        {16, 128}, {1, 50}, {1, 200}, {20, 200}, {0, 200}, {1, 500}, {0, 1000}, {0, 100}};
    private static final Pattern FIRING = Pattern.compile("([0-9]{1,5}) ([0-9]{1,5}) ([0-9]{1,5});");

    /** One state of the control, copied whole whenever one is kept. */
    private static final class Memory {
        int[] settings = {40, 10, 20, 150, 40, 30, 10, 60};
        BigInteger s = BigInteger.ONE;
        boolean broken;
        long[][] cylinders; // fast, level, quiet, knocked
        int[][] learned = new int[6][4];
        List<int[]> log = new ArrayList<>();
        int steady;
        int row = -1;
        int column = -1;
        int low;
        int good;
        boolean faulty;
        int firings;

        Memory(int count) {
            cylinders = new long[count][];
            for (int c = 0; c < count; c++) {
                cylinders[c] = new long[] {0, 200 * 256, 0, 0};
            }
        }

        Memory copy() {
            Memory m = new Memory(cylinders.length);
            m.settings = settings.clone();
            m.s = s;
            m.broken = broken;
            for (int c = 0; c < cylinders.length; c++) {
                m.cylinders[c] = cylinders[c].clone();
            }
            for (int r = 0; r < 6; r++) {
                m.learned[r] = learned[r].clone();
            }
            m.log = new ArrayList<>(log);
            m.steady = steady;
            m.row = row;
            m.column = column;
            m.low = low;
            m.good = good;
            m.faulty = faulty;
            m.firings = firings;
            return m;
        }

        long threshold(int c) {
            return Math.floorDiv(cylinders[c][1] * settings[0], 4096L) + 50;
        }

        long retard(int c, int r, int k) {
            long own = faulty ? settings[7] : cylinders[c][0];
            return Math.min(settings[3], own + learned[r][k]);
        }

        long advance(int c, int speed, int load) {
            return 100 + speed / 50 - load - retard(c, rowOf(speed), columnOf(load));
        }

        void event(int kind, int number) {
            log.add(new int[] {kind, number, firings});
            if (log.size() > 60) {
                log.remove(0);
            }
        }

        int fire(int speed, int load, long energy) {
            int answer = 2;
            int r = rowOf(speed);
            int k = columnOf(load);
            int c = firings % cylinders.length;
            // 1
            if (energy < settings[6]) {
                low++;
                good = 0;
            } else {
                good++;
                low = 0;
            }
            boolean was = faulty;
            if (!was && low >= 20) {
                faulty = true;
                event(1, 0);
            }
            if (was && good >= 50) {
                faulty = false;
                event(2, 0);
            }
            // 2
            if (r == row && k == column) {
                steady++;
            } else {
                steady = 0;
            }
            row = r;
            column = k;
            // 3
            if (!faulty) {
                long t = threshold(c);
                long[] own = cylinders[c];
                answer = energy > t ? 1 : 0;
                if (answer == 1) {
                    long more = Math.min(3L * settings[1], Math.floorDiv(settings[1] * (energy - t), t));
                    long to = own[0] + settings[1] + more;
                    if (to > settings[3] - learned[r][k]) {
                        to = settings[3] - learned[r][k];
                    }
                    if (to > own[0]) {
                        own[0] = to;
                    }
                    own[2] = 0;
                    own[3]++;
                    event(0, c);
                } else {
                    own[1] += Math.floorDiv(256 * energy - own[1], 16L);
                    own[2]++;
                    if (own[2] >= settings[2]) {
                        own[2] = 0;
                        own[0] = own[0] > 0 ? own[0] - 1 : own[0];
                    }
                }
                long m = Arrays.stream(cylinders).mapToLong(a -> a[0]).max().getAsLong();
                for (long[] other : cylinders) {
                    if (other[0] < m - settings[4]) {
                        other[0] = m - settings[4];
                    }
                }
            }
            // 4
            if (!faulty && steady >= settings[5] && steady % cylinders.length == 0) {
                long a = Arrays.stream(cylinders).mapToLong(b -> b[0]).sum() / cylinders.length;
                if (a > 20 && learned[r][k] < 100) {
                    learned[r][k]++;
                    for (long[] other : cylinders) {
                        if (other[0] > 0) {
                            other[0]--;
                        }
                    }
                    event(3, 4 * r + k);
                } else if (a < 5 && learned[r][k] > 0) {
                    learned[r][k]--;
                    event(4, 4 * r + k);
                }
            }
            firings++;
            return answer;
        }

        int fireModel(int speed, int load, int octane) {
            s = s.multiply(BigInteger.valueOf(1103515245L)).add(BigInteger.valueOf(12345L))
                .mod(BigInteger.TWO.pow(31));
            long r = s.longValue() / 65536 % 40;
            long k = advance(firings % cylinders.length, speed, load) - knockLimit(speed, load, octane);
            long energy = speed / 20 + load + r;
            if (k > 0) {
                energy += 12 * k;
            }
            if (energy > 20000) {
                energy = 20000;
            }
            return fire(speed, load, broken ? 0 : energy);
        }
    }

    private Memory now = new Memory(4);
    private final Deque<Memory> kept = new ArrayDeque<>();
    private String text = "";

    private static int rowOf(int speed) {
        return speed >= 5500 ? 5 : (speed - 500) / 1000;
    }

    private static int columnOf(int load) {
        return load >= 75 ? 3 : load / 25;
    }

    private static int knockLimit(int speed, int load, int octane) {
        return 150 + speed / 60 - 3 * load / 2 + 8 * (octane - 95);
    }

    private static boolean in(int v, int least, int most) {
        return least <= v && v <= most;
    }

    private static boolean operation(int speed, int load) {
        return in(speed, 500, 7000) && in(load, 0, 100);
    }

    private void keep() {
        kept.addLast(now.copy());
        while (kept.size() > 4) {
            kept.removeFirst();
        }
    }

    Object begin(int cylinders) {
        if (!in(cylinders, 2, 8)) {
            return ARGUMENT;
        }
        keep();
        Memory fresh = new Memory(cylinders);
        fresh.settings = now.settings;
        fresh.s = now.s;
        fresh.broken = now.broken;
        int before = now.firings;
        now = fresh;
        return before;
    }

    Object set(int what, int value) {
        if (!in(what, 0, 7) || !in(value, RANGES[what][0], RANGES[what][1])) {
            return ARGUMENT;
        }
        keep();
        int before = now.settings[what];
        now.settings[what] = value;
        return before;
    }

    Object value(int what) {
        if (what == 8) {
            return now.cylinders.length;
        }
        return in(what, 0, 7) ? (Object) now.settings[what] : ARGUMENT;
    }

    Object teach(int row, int column, int retard) {
        if (!in(row, 0, 5) || !in(column, 0, 3)) {
            return PLACE;
        }
        if (!in(retard, 0, 100)) {
            return ARGUMENT;
        }
        keep();
        int before = now.learned[row][column];
        now.learned[row][column] = retard;
        return before;
    }

    Object breakSensor(boolean broken) {
        keep();
        boolean before = now.broken;
        now.broken = broken;
        return before;
    }

    Object seed(int seed) {
        if (!in(seed, 0, 999999)) {
            return ARGUMENT;
        }
        keep();
        int before = now.s.intValueExact();
        now.s = BigInteger.valueOf(seed);
        return before;
    }

    Object fire(int speed, int load, int energy) {
        if (!operation(speed, load) || !in(energy, 0, 20000)) {
            return ARGUMENT;
        }
        keep();
        return now.fire(speed, load, energy);
    }

    Object drive(int speed, int load, int octane, int count) {
        if (!operation(speed, load) || !in(octane, 80, 110) || !in(count, 0, 1000)) {
            return ARGUMENT;
        }
        keep();
        int knocked = 0;
        for (int i = 0; i < count; i++) {
            if (now.fireModel(speed, load, octane) == 1) {
                knocked++;
            }
        }
        return knocked;
    }

    Object firings() {
        return now.firings;
    }

    Object next() {
        return now.firings % now.cylinders.length;
    }

    Object cylinder(int cylinder, int what) {
        if (!in(cylinder, 0, now.cylinders.length - 1)) {
            return PLACE;
        }
        if (!in(what, 0, 4)) {
            return ARGUMENT;
        }
        long answer = what == 3 ? now.threshold(cylinder) : now.cylinders[cylinder][what == 4 ? 3 : what];
        return (int) answer;
    }

    Object learned(int row, int column) {
        return in(row, 0, 5) && in(column, 0, 3) ? (Object) now.learned[row][column] : PLACE;
    }

    Object angle(int cylinder, int speed, int load, boolean advance) {
        if (!in(cylinder, 0, now.cylinders.length - 1)) {
            return PLACE;
        }
        if (!operation(speed, load)) {
            return ARGUMENT;
        }
        long answer = advance ? now.advance(cylinder, speed, load)
            : now.retard(cylinder, rowOf(speed), columnOf(load));
        return (int) answer;
    }

    Object status(int what) {
        switch (what) {
            case 0:
                return now.faulty ? 1 : 0;
            case 1:
                return now.low;
            case 2:
                return now.good;
            case 3:
                return now.steady;
            case 4:
                return now.row < 0 ? -1 : 4 * now.row + now.column;
            default:
                return ARGUMENT;
        }
    }

    Object unfairness() {
        long greatest = 0;
        for (long[] one : now.cylinders) {
            for (long[] other : now.cylinders) {
                greatest = Math.max(greatest, one[0] - other[0]);
            }
        }
        return (int) greatest;
    }

    Object rateBits() {
        long knocked = Arrays.stream(now.cylinders).mapToLong(a -> a[3]).sum();
        return Float.floatToIntBits(now.firings == 0 ? 0.0f : (float) knocked / (float) now.firings);
    }

    Object octane(int column) {
        if (!in(column, 0, 3)) {
            return PLACE;
        }
        int[] above = Arrays.stream(now.learned).mapToInt(a -> a[column]).filter(v -> v > 0).toArray();
        if (above.length == 0) {
            return 100.0;
        }
        return 100.0 - ((double) Arrays.stream(above).sum() / (double) above.length) / 2.0;
    }

    Object extreme(int index, boolean row, boolean greatest) {
        if (!in(index, 0, row ? 5 : 3)) {
            return PLACE;
        }
        int[] line = row ? now.learned[index].clone()
            : Arrays.stream(now.learned).mapToInt(a -> a[index]).toArray();
        Arrays.sort(line);
        return line[greatest ? line.length - 1 : 0];
    }

    Object events() {
        return now.log.size();
    }

    Object event(int event, int what) {
        if (!in(event, 0, now.log.size() - 1)) {
            return PLACE;
        }
        return in(what, 0, 2) ? (Object) now.log.get(event)[what] : ARGUMENT;
    }

    Object eventsOf(int kind) {
        if (!in(kind, 0, 4)) {
            return ARGUMENT;
        }
        return (int) now.log.stream().filter(e -> e[0] == kind).count();
    }

    Object limit(int cylinder, int speed, int load, int octane) {
        if (!in(cylinder, -1, now.cylinders.length - 1)) {
            return PLACE;
        }
        if (!operation(speed, load) || !in(octane, 80, 110)) {
            return ARGUMENT;
        }
        int knockLimit = knockLimit(speed, load, octane);
        return cylinder < 0 ? knockLimit : (int) now.advance(cylinder, speed, load) - knockLimit;
    }

    Object quietAfter(int speed, int load, int octane) {
        if (!operation(speed, load) || !in(octane, 80, 110)) {
            return ARGUMENT;
        }
        Memory copy = now.copy();
        int latestKnock = 0;
        for (int i = 1; i <= 1000; i++) {
            if (copy.fireModel(speed, load, octane) == 1) {
                latestKnock = i;
            }
            if (i - latestKnock == 5 * copy.cylinders.length) {
                return i;
            }
        }
        return -1;
    }

    Object lowestOctane(int speed, int load, int count) {
        if (!operation(speed, load) || !in(count, 1, 100)) {
            return ARGUMENT;
        }
        int found = -1;
        for (int octane = 110; octane >= 80; octane--) {
            Memory copy = now.copy();
            int knocked = 0;
            for (int i = 0; i < count; i++) {
                knocked += copy.fireModel(speed, load, octane) == 1 ? 1 : 0;
            }
            found = knocked == 0 ? octane : found;
        }
        return found;
    }

    Object append(int value) {
        if (!in(value, 0, 127)) {
            return ARGUMENT;
        }
        if (text.length() == 120) {
            return STATE;
        }
        text += (char) value;
        return text.length();
    }

    Object clearText() {
        int before = text.length();
        text = "";
        return before;
    }

    /** The longest beginning of the text with which a text could begin. */
    private int syntaxError() {
        Pattern beginning = Pattern.compile("([0-9]{1,5} [0-9]{1,5} [0-9]{1,5};)*"
            + "([0-9]{1,5}( ([0-9]{1,5}( ([0-9]{1,5})?)?)?)?)?");
        int most = text.length();
        while (!beginning.matcher(text.substring(0, most)).matches()) {
            most--;
        }
        return most;
    }

    Object replay() {
        if (!Pattern.matches("(" + FIRING.pattern() + ")*", text)) {
            return -10 - syntaxError();
        }
        List<int[]> read = new ArrayList<>();
        Matcher matcher = FIRING.matcher(text);
        while (matcher.find()) {
            int[] firing = new int[3];
            for (int i = 0; i < 3; i++) {
                firing[i] = Integer.parseInt(matcher.group(i + 1));
            }
            if (!operation(firing[0], firing[1]) || !in(firing[2], 0, 20000)) {
                return -1000 - read.size();
            }
            read.add(firing);
        }
        keep();
        for (int[] firing : read) {
            now.fire(firing[0], firing[1], firing[2]);
        }
        return read.size();
    }

    Object undo() {
        if (kept.isEmpty()) {
            return STATE;
        }
        now = kept.removeLast();
        return kept.size();
    }

    Object digest() {
        List<Object> values = new ArrayList<>();
        values.add(text.length());
        for (int what = 0; what <= 8; what++) {
            values.add(value(what));
        }
        values.add(firings());
        values.add(next());
        values.add(now.s.intValueExact());
        values.add(now.broken ? 1 : 0);
        for (int what = 0; what <= 4; what++) {
            values.add(status(what));
        }
        for (int c = 0; c < now.cylinders.length; c++) {
            for (int what = 0; what <= 4; what++) {
                values.add(cylinder(c, what));
            }
        }
        for (int[] row : now.learned) {
            for (int retard : row) {
                values.add(retard);
            }
        }
        values.add(now.log.size());
        for (int[] event : now.log) {
            for (int part : event) {
                values.add(part);
            }
        }
        values.add(kept.size());
        long h = 2969;
        for (Object v : values) {
            h = 31 * h + (Integer) v;
        }
        return h;
    }
}
