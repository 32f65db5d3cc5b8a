/**
 * A simulator of the knock control of an engine: background levels and
 * thresholds for each cylinder, fast and learned retards, a sensor that can
 * fail, a model of knocking, a log, what-if simulations and recorded firings.
 *
 * All rows are made in the constructors and used again, so that no call
 * makes an object but for the exception that it may throw.
 */
public final class KnockControl {
    public static final int NONE = -1;

    private static final int LEAST_CYLINDERS = 2;
    private static final int MOST_CYLINDERS = 8;
    private static final int FIRST_CYLINDERS = 4;
    private static final int LEAST_SPEED = 500;
    private static final int MOST_SPEED = 7000;
    private static final int MOST_LOAD = 100;
    private static final int MOST_ENERGY = 20000;
    private static final int LEAST_OCTANE = 80;
    private static final int MOST_OCTANE = 110;
    private static final int MOST_SEED = 999999;
    private static final int MOST_DRIVEN = 1000;
    private static final int MOST_LOOKED_AHEAD = 1000;
    private static final int MOST_TRIED = 100;
    private static final int QUIET_CYCLES = 5;

    private static final int ROWS = 6;
    private static final int COLUMNS = 4;
    private static final int MOST_LEARNED = 100;

    private static final int GAIN = 0;
    private static final int STEP = 1;
    private static final int RETURN_COUNT = 2;
    private static final int LIMIT = 3;
    private static final int SPREAD = 4;
    private static final int STEADY_TIME = 5;
    private static final int SMALLEST_ENERGY = 6;
    private static final int FIXED_RETARD = 7;
    private static final int SETTINGS = 8;
    private static final int[] LEAST_SETTING = {16, 1, 1, 20, 0, 1, 0, 0};
    private static final int[] FIRST_SETTING = {40, 10, 20, 150, 40, 30, 10, 60};
    private static final int[] MOST_SETTING = {128, 50, 200, 200, 200, 500, 1000, 100};

    private static final int FIRST_LEVEL = 51200;
    private static final int LOW_UNTIL_FAULTY = 20;
    private static final int GOOD_UNTIL_SOUND = 50;
    private static final int LEARN_ABOVE = 20;
    private static final int FORGET_BELOW = 5;

    private static final int QUIET = 0;
    private static final int KNOCKED = 1;
    private static final int UNHEARD = 2;

    private static final int KNOCK = 0;
    private static final int FAULTY = 1;
    private static final int SOUND = 2;
    private static final int LEARNED_MORE = 3;
    private static final int LEARNED_LESS = 4;
    private static final int KINDS = 5;
    private static final int MOST_EVENTS = 60;

    private static final int MOST_BYTES = 120;
    // A number takes a digit and a separator at least.
    private static final int MOST_NUMBERS = MOST_BYTES / 2;
    private static final int MOST_DIGITS = 5;
    private static final int NUMBERS_OF_A_FIRING = 3;
    private static final int SYNTAX_ERROR = -10;
    private static final int RANGE_ERROR = -1000;

    private static final int MOST_SAVED = 4;
    private static final long FIRST_HASH = 2969;

    // Of a float: the place of its exponent, and the exponent of 1.0f.
    private static final int FRACTION = 8388608;
    private static final int EXPONENT_OF_ONE = 127;

    private final State now;
    private final State trial;
    private final History history;
    private final FiringText text;

    public KnockControl() {
        now = new State();
        trial = new State();
        history = new History();
        text = new FiringText();
    }

    // ---- settings

    public int begin(int cylinders) throws IllegalArgumentException {
        demand(within(cylinders, LEAST_CYLINDERS, MOST_CYLINDERS));
        int before = now.firings;
        history.keep(now);
        now.restart(cylinders);
        return before;
    }

    public int set(int what, int value) throws IllegalArgumentException {
        demand(isSetting(what, value));
        int before = now.settings.at(what);
        history.keep(now);
        now.settings.put(what, value);
        return before;
    }

    public int value(int what) throws IllegalArgumentException {
        demand(within(what, 0, SETTINGS));
        return now.settingOrCylinders(what);
    }

    public int teach(int row, int column, int retard)
            throws IndexOutOfBoundsException, IllegalArgumentException {
        demandPlace(isCell(row, column));
        demand(within(retard, 0, MOST_LEARNED));
        int cell = COLUMNS * row + column;
        int before = now.learned.at(cell);
        history.keep(now);
        now.learned.put(cell, retard);
        return before;
    }

    public boolean breakSensor(boolean broken) {
        boolean before = now.broken;
        history.keep(now);
        now.broken = broken;
        return before;
    }

    public int seed(int seed) throws IllegalArgumentException {
        demand(within(seed, 0, MOST_SEED));
        int before = now.s;
        history.keep(now);
        now.s = seed;
        return before;
    }

    // ---- firings

    public int fire(int speed, int load, int energy) throws IllegalArgumentException {
        demand(isFiring(speed, load, energy));
        history.keep(now);
        return now.treat(speed, load, energy);
    }

    public int drive(int speed, int load, int octane, int count) throws IllegalArgumentException {
        demand(isDriving(speed, load, octane) && within(count, 0, MOST_DRIVEN));
        history.keep(now);
        int knocked = 0;
        for (int i = 0; i < count; i++) {
            if (now.treatModelled(speed, load, octane) == KNOCKED) {
                knocked++;
            }
        }
        return knocked;
    }

    public int firings() {
        return now.firings;
    }

    public int next() {
        return now.next;
    }

    // ---- what there is

    public int cylinder(int cylinder, int what)
            throws IndexOutOfBoundsException, IllegalArgumentException {
        demandPlace(isCylinder(cylinder));
        demand(within(what, 0, 4));
        return now.aboutCylinder(cylinder, what);
    }

    public int learned(int row, int column) throws IndexOutOfBoundsException {
        demandPlace(isCell(row, column));
        return now.learned.at(COLUMNS * row + column);
    }

    public int angle(int cylinder, int speed, int load, boolean advance)
            throws IndexOutOfBoundsException, IllegalArgumentException {
        demandPlace(isCylinder(cylinder));
        demand(isOperation(speed, load));
        if (advance) {
            return now.advanceOf(cylinder, speed, load);
        }
        return now.retardOf(cylinder, Engine.cellOf(speed, load));
    }

    public int status(int what) throws IllegalArgumentException {
        demand(within(what, 0, 4));
        return now.aboutControl(what);
    }

    public int unfairness() {
        return now.greatestFast() - now.smallestFast();
    }

    public int rateBits() {
        if (now.firings <= 0) {
            return 0;
        }
        return bitsOfShare((float) now.allKnocks() / (float) now.firings);
    }

    public double octane(int column) throws IndexOutOfBoundsException {
        demandPlace(within(column, 0, COLUMNS - 1));
        int sum = 0;
        int count = 0;
        for (int row = 0; row < ROWS; row++) {
            int retard = now.learned.at(COLUMNS * row + column);
            if (retard > 0) {
                sum += retard;
                count++;
            }
        }
        return count > 0 ? 100.0 - (double) sum / (double) count / 2.0 : 100.0;
    }

    public int extreme(int index, boolean row, boolean greatest) throws IndexOutOfBoundsException {
        demandPlace(within(index, 0, (row ? ROWS : COLUMNS) - 1));
        int first = row ? COLUMNS * index : index;
        int stride = row ? 1 : COLUMNS;
        int count = row ? COLUMNS : ROWS;
        int answer = now.learned.at(first);
        for (int i = 1; i < count; i++) {
            int retard = now.learned.at(first + i * stride);
            answer = greatest ? Math.max(answer, retard) : Math.min(answer, retard);
        }
        return answer;
    }

    // ---- log

    public int events() {
        return now.log.size();
    }

    public int event(int event, int what)
            throws IndexOutOfBoundsException, IllegalArgumentException {
        demandPlace(within(event, 0, now.log.size() - 1));
        demand(within(what, 0, 2));
        return now.log.about(event, what);
    }

    public int eventsOf(int kind) throws IllegalArgumentException {
        demand(within(kind, 0, KINDS - 1));
        int count = 0;
        for (int i = 0; i < now.log.size(); i++) {
            if (now.log.about(i, 0) == kind) {
                count++;
            }
        }
        return count;
    }

    // ---- model and what if

    public int limit(int cylinder, int speed, int load, int octane)
            throws IndexOutOfBoundsException, IllegalArgumentException {
        demandPlace(cylinder == NONE || isCylinder(cylinder));
        demand(isDriving(speed, load, octane));
        int knockLimit = Engine.knockLimit(speed, load, octane);
        if (cylinder == NONE) {
            return knockLimit;
        }
        return now.advanceOf(cylinder, speed, load) - knockLimit;
    }

    public int quietAfter(int speed, int load, int octane) throws IllegalArgumentException {
        demand(isDriving(speed, load, octane));
        trial.copy(now);
        int wanted = QUIET_CYCLES * now.cylinders;
        int quiet = 0;
        for (int treated = 1; treated <= MOST_LOOKED_AHEAD; treated++) {
            quiet = trial.treatModelled(speed, load, octane) == KNOCKED ? 0 : quiet + 1;
            if (quiet >= wanted) {
                return treated;
            }
        }
        return NONE;
    }

    public int lowestOctane(int speed, int load, int count) throws IllegalArgumentException {
        demand(isOperation(speed, load) && within(count, 1, MOST_TRIED));
        for (int octane = LEAST_OCTANE; octane <= MOST_OCTANE; octane++) {
            if (staysQuiet(speed, load, octane, count)) {
                return octane;
            }
        }
        return NONE;
    }

    private boolean staysQuiet(int speed, int load, int octane, int count) {
        trial.copy(now);
        for (int i = 0; i < count; i++) {
            if (trial.treatModelled(speed, load, octane) == KNOCKED) {
                return false;
            }
        }
        return true;
    }

    // ---- text

    public int append(int value) throws IllegalArgumentException, IllegalStateException {
        demand(within(value, 0, 127));
        demandState(text.size() < MOST_BYTES);
        text.add(value);
        return text.size();
    }

    public int clearText() {
        int before = text.size();
        text.empty();
        return before;
    }

    public int replay() {
        int error = text.read();
        if (error != NONE) {
            return SYNTAX_ERROR - error;
        }
        int wrong = firstWrongFiring();
        if (wrong != NONE) {
            return RANGE_ERROR - wrong;
        }
        history.keep(now);
        for (int i = 0; i < text.firingsRead(); i++) {
            now.treat(text.number(i, 0), text.number(i, 1), text.number(i, 2));
        }
        return text.firingsRead();
    }

    private int firstWrongFiring() {
        for (int i = 0; i < text.firingsRead(); i++) {
            if (!isFiring(text.number(i, 0), text.number(i, 1), text.number(i, 2))) {
                return i;
            }
        }
        return NONE;
    }

    // ---- state

    public int undo() throws IllegalStateException {
        demandState(history.size() > 0);
        history.restore(now);
        return history.size();
    }

    public long digest() {
        long h = FIRST_HASH;
        h = mix(h, text.size());
        for (int what = 0; what <= SETTINGS; what++) {
            h = mix(h, now.settingOrCylinders(what));
        }
        h = mix(h, now.firings);
        h = mix(h, now.next);
        h = mix(h, now.s);
        h = mix(h, now.broken ? 1 : 0);
        for (int what = 0; what <= 4; what++) {
            h = mix(h, now.aboutControl(what));
        }
        for (int c = 0; c < now.cylinders; c++) {
            for (int what = 0; what <= 4; what++) {
                h = mix(h, now.aboutCylinder(c, what));
            }
        }
        for (int cell = 0; cell < ROWS * COLUMNS; cell++) {
            h = mix(h, now.learned.at(cell));
        }
        h = mix(h, now.log.size());
        for (int i = 0; i < now.log.size(); i++) {
            for (int what = 0; what <= 2; what++) {
                h = mix(h, now.log.about(i, what));
            }
        }
        return mix(h, history.size());
    }

    private static long mix(long h, long v) {
        return 31 * h + v;
    }

    /** The bits of a float from 0.0f to 1.0f; the language rules leave Float.floatToIntBits out. */
    private static int bitsOfShare(float share) {
        if (!(share > 0.0f)) {
            return 0;
        }
        float fraction = share;
        int exponent = EXPONENT_OF_ONE;
        // Doubling is exact, so that no bit of the fraction is lost on the way.
        while (fraction < 1.0f && exponent > 1) {
            fraction = fraction * 2.0f;
            exponent--;
        }
        return exponent * FRACTION + (int) ((fraction - 1.0f) * (float) FRACTION);
    }

    // ---- what arguments may be

    private static boolean within(int value, int least, int most) {
        return value >= least && value <= most;
    }

    private static boolean isSetting(int what, int value) {
        return what >= 0 && what < LEAST_SETTING.length && what < MOST_SETTING.length
                && within(value, LEAST_SETTING[what], MOST_SETTING[what]);
    }

    private static boolean isCell(int row, int column) {
        return within(row, 0, ROWS - 1) && within(column, 0, COLUMNS - 1);
    }

    private static boolean isOperation(int speed, int load) {
        return within(speed, LEAST_SPEED, MOST_SPEED) && within(load, 0, MOST_LOAD);
    }

    private static boolean isFiring(int speed, int load, int energy) {
        return isOperation(speed, load) && within(energy, 0, MOST_ENERGY);
    }

    private static boolean isDriving(int speed, int load, int octane) {
        return isOperation(speed, load) && within(octane, LEAST_OCTANE, MOST_OCTANE);
    }

    private boolean isCylinder(int cylinder) {
        return within(cylinder, 0, now.cylinders - 1);
    }

    private static void demand(boolean allowed) {
        if (!allowed) {
            throw new IllegalArgumentException("an argument is out of range");
        }
    }

    private static void demandPlace(boolean exists) {
        if (!exists) {
            throw new IndexOutOfBoundsException("there is no such place");
        }
    }

    private static void demandState(boolean allowed) {
        if (!allowed) {
            throw new IllegalStateException("not in this state");
        }
    }

    /** What depends on the operating point alone. */
    private static final class Engine {
        private Engine() {
        }

        static int cellOf(int speed, int load) {
            int row = Math.min((speed - LEAST_SPEED) / 1000, ROWS - 1);
            int column = Math.min(load / 25, COLUMNS - 1);
            return COLUMNS * row + column;
        }

        static int basicAdvance(int speed, int load) {
            return 100 + speed / 50 - load;
        }

        static int knockLimit(int speed, int load, int octane) {
            return 150 + speed / 60 - load * 3 / 2 + (octane - 95) * 8;
        }
    }

    /** Numbers in places from 0 on; outside of them it answers 0 and keeps nothing, so no index can fail. */
    private static final class Row {
        private final int[] numbers;

        Row(int length) {
            numbers = new int[Math.max(length, 0)];
        }

        int at(int place) {
            return place >= 0 && place < numbers.length ? numbers[place] : 0;
        }

        void put(int place, int number) {
            if (place >= 0 && place < numbers.length) {
                numbers[place] = number;
            }
        }

        void raise(int place, int by) {
            if (place >= 0 && place < numbers.length) {
                numbers[place] += by;
            }
        }

        void fill(int number) {
            for (int i = 0; i < numbers.length; i++) {
                numbers[i] = number;
            }
        }

        void copy(Row other) {
            for (int i = 0; i < numbers.length; i++) {
                numbers[i] = other.at(i);
            }
        }
    }

    /** The latest events; a ring, so that dropping the oldest moves nothing. */
    private static final class Log {
        private final Row kinds = new Row(MOST_EVENTS);
        private final Row numbers = new Row(MOST_EVENTS);
        private final Row firings = new Row(MOST_EVENTS);
        private int oldest;
        private int count;

        int size() {
            return count;
        }

        void empty() {
            oldest = 0;
            count = 0;
        }

        void note(int kind, int number, int firing) {
            int place = placeOf(count);
            if (count < MOST_EVENTS) {
                count++;
            } else {
                oldest = placeOf(1);
            }
            kinds.put(place, kind);
            numbers.put(place, number);
            firings.put(place, firing);
        }

        int about(int event, int what) {
            int place = placeOf(event);
            switch (what) {
                case 0:
                    return kinds.at(place);
                case 1:
                    return numbers.at(place);
                default:
                    return firings.at(place);
            }
        }

        void copy(Log other) {
            kinds.copy(other.kinds);
            numbers.copy(other.numbers);
            firings.copy(other.firings);
            oldest = other.oldest;
            count = other.count;
        }

        private int placeOf(int event) {
            return (oldest + event) % MOST_EVENTS;
        }
    }

    /** Everything that a call can change but the firing text and the saved states. */
    private static final class State {
        private final Row settings = new Row(SETTINGS);
        private final Row fast = new Row(MOST_CYLINDERS);
        private final Row level = new Row(MOST_CYLINDERS);
        private final Row quiet = new Row(MOST_CYLINDERS);
        private final Row knocks = new Row(MOST_CYLINDERS);
        private final Row learned = new Row(ROWS * COLUMNS);
        private final Log log = new Log();
        private int cylinders;
        private int steady;
        private int latestCell;
        private int low;
        private int good;
        private boolean faulty;
        private int firings;
        private int next;
        private int s;
        private boolean broken;

        State() {
            for (int what = 0; what < FIRST_SETTING.length; what++) {
                settings.put(what, FIRST_SETTING[what]);
            }
            s = 1;
            broken = false;
            restart(FIRST_CYLINDERS);
        }

        void restart(int wanted) {
            cylinders = wanted;
            fast.fill(0);
            level.fill(FIRST_LEVEL);
            quiet.fill(0);
            knocks.fill(0);
            learned.fill(0);
            log.empty();
            steady = 0;
            latestCell = NONE;
            low = 0;
            good = 0;
            faulty = false;
            firings = 0;
            next = 0;
        }

        void copy(State other) {
            settings.copy(other.settings);
            fast.copy(other.fast);
            level.copy(other.level);
            quiet.copy(other.quiet);
            knocks.copy(other.knocks);
            learned.copy(other.learned);
            log.copy(other.log);
            cylinders = other.cylinders;
            steady = other.steady;
            latestCell = other.latestCell;
            low = other.low;
            good = other.good;
            faulty = other.faulty;
            firings = other.firings;
            next = other.next;
            s = other.s;
            broken = other.broken;
        }

        // ---- what there is

        int settingOrCylinders(int what) {
            return what == SETTINGS ? cylinders : settings.at(what);
        }

        int aboutCylinder(int c, int what) {
            switch (what) {
                case 0:
                    return fast.at(c);
                case 1:
                    return level.at(c);
                case 2:
                    return quiet.at(c);
                case 3:
                    return thresholdOf(c);
                default:
                    return knocks.at(c);
            }
        }

        int aboutControl(int what) {
            switch (what) {
                case 0:
                    return faulty ? 1 : 0;
                case 1:
                    return low;
                case 2:
                    return good;
                case 3:
                    return steady;
                default:
                    return latestCell;
            }
        }

        int thresholdOf(int c) {
            return level.at(c) * settings.at(GAIN) / 4096 + 50;
        }

        int retardOf(int c, int cell) {
            int ownRetard = faulty ? settings.at(FIXED_RETARD) : fast.at(c);
            return Math.min(ownRetard + learned.at(cell), settings.at(LIMIT));
        }

        int advanceOf(int c, int speed, int load) {
            return Engine.basicAdvance(speed, load) - retardOf(c, Engine.cellOf(speed, load));
        }

        int greatestFast() {
            int greatest = fast.at(0);
            for (int c = 1; c < cylinders; c++) {
                greatest = Math.max(greatest, fast.at(c));
            }
            return greatest;
        }

        int smallestFast() {
            int smallest = fast.at(0);
            for (int c = 1; c < cylinders; c++) {
                smallest = Math.min(smallest, fast.at(c));
            }
            return smallest;
        }

        int allKnocks() {
            int sum = 0;
            for (int c = 0; c < cylinders; c++) {
                sum += knocks.at(c);
            }
            return sum;
        }

        // ---- a firing

        int treatModelled(int speed, int load, int octane) {
            s = (int) ((1103515245L * s + 12345L) % 2147483648L);
            if (broken) {
                return treat(speed, load, 0);
            }
            int r = s / 65536 % 40;
            int over = advanceOf(next, speed, load) - Engine.knockLimit(speed, load, octane);
            int energy = speed / 20 + load + r + 12 * Math.max(over, 0);
            return treat(speed, load, Math.min(energy, MOST_ENERGY));
        }

        int treat(int speed, int load, int energy) {
            int cell = Engine.cellOf(speed, load);
            watchSensor(energy);
            steady = cell == latestCell ? steady + 1 : 0;
            latestCell = cell;
            int outcome = UNHEARD;
            if (!faulty) {
                outcome = listen(next, cell, energy);
                keepTogether();
                learn(cell);
            }
            firings++;
            next = next + 1 < cylinders ? next + 1 : 0;
            return outcome;
        }

        private void watchSensor(int energy) {
            boolean weak = energy < settings.at(SMALLEST_ENERGY);
            low = weak ? low + 1 : 0;
            good = weak ? 0 : good + 1;
            if (!faulty && low >= LOW_UNTIL_FAULTY) {
                faulty = true;
                log.note(FAULTY, 0, firings);
            } else if (faulty && good >= GOOD_UNTIL_SOUND) {
                faulty = false;
                log.note(SOUND, 0, firings);
            }
        }

        private int listen(int c, int cell, int energy) {
            int threshold = thresholdOf(c);
            if (energy > threshold) {
                retardFast(c, cell, energy, threshold);
                quiet.put(c, 0);
                knocks.raise(c, 1);
                log.note(KNOCK, c, firings);
                return KNOCKED;
            }
            level.raise(c, Math.floorDiv(256 * energy - level.at(c), 16));
            quiet.raise(c, 1);
            if (quiet.at(c) >= settings.at(RETURN_COUNT)) {
                quiet.put(c, 0);
                lowerFast(c);
            }
            return QUIET;
        }

        private void retardFast(int c, int cell, int energy, int threshold) {
            int step = settings.at(STEP);
            int excess = threshold > 0 ? step * (energy - threshold) / threshold : 0;
            int wanted = fast.at(c) + step + Math.min(3 * step, excess);
            int most = settings.at(LIMIT) - learned.at(cell);
            // A retard from before the limit was lowered, or more was learned, stays.
            fast.put(c, Math.max(fast.at(c), Math.min(wanted, most)));
        }

        private void lowerFast(int c) {
            if (fast.at(c) > 0) {
                fast.raise(c, -1);
            }
        }

        private void keepTogether() {
            int least = greatestFast() - settings.at(SPREAD);
            for (int c = 0; c < cylinders; c++) {
                fast.put(c, Math.max(fast.at(c), least));
            }
        }

        private void learn(int cell) {
            if (cylinders <= 0 || steady < settings.at(STEADY_TIME) || steady % cylinders != 0) {
                return;
            }
            int mean = sumOfFast() / cylinders;
            int retard = learned.at(cell);
            if (mean > LEARN_ABOVE && retard < MOST_LEARNED) {
                learned.put(cell, retard + 1);
                for (int c = 0; c < cylinders; c++) {
                    lowerFast(c);
                }
                log.note(LEARNED_MORE, cell, firings);
            } else if (mean < FORGET_BELOW && retard > 0) {
                learned.put(cell, retard - 1);
                log.note(LEARNED_LESS, cell, firings);
            }
        }

        private int sumOfFast() {
            int sum = 0;
            for (int c = 0; c < cylinders; c++) {
                sum += fast.at(c);
            }
            return sum;
        }
    }

    /** The saved states; a ring of states that are made once and written again. */
    private static final class History {
        private final State[] states = new State[MOST_SAVED];
        private int oldest;
        private int count;

        History() {
            for (int i = 0; i < states.length; i++) {
                states[i] = new State();
            }
        }

        int size() {
            return count;
        }

        void keep(State state) {
            State place = placeOf(count);
            if (place != null) {
                place.copy(state);
            }
            if (count < MOST_SAVED) {
                count++;
            } else {
                oldest = (oldest + 1) % MOST_SAVED;
            }
        }

        void restore(State state) {
            if (count > 0) {
                count--;
                State place = placeOf(count);
                if (place != null) {
                    state.copy(place);
                }
            }
        }

        private State placeOf(int saved) {
            int place = (oldest + saved) % MOST_SAVED;
            return place >= 0 && place < states.length ? states[place] : null;
        }
    }

    /** The firing text, and the numbers that were read from it last. */
    private static final class FiringText {
        private final Row bytes = new Row(MOST_BYTES);
        private final Row numbers = new Row(MOST_NUMBERS);
        private int length;
        private int numbersRead;

        int size() {
            return length;
        }

        void add(int value) {
            if (length < MOST_BYTES) {
                bytes.put(length, value);
                length++;
            }
        }

        void empty() {
            length = 0;
        }

        /** Reads the whole text and returns the syntax error position, or NONE. */
        int read() {
            numbersRead = 0;
            int digits = 0;
            int number = 0;
            for (int i = 0; i < length; i++) {
                int sign = bytes.at(i);
                if (sign >= '0' && sign <= '9' && digits < MOST_DIGITS) {
                    number = 10 * number + sign - '0';
                    digits++;
                } else if (digits > 0 && sign == separator()) {
                    numbers.put(numbersRead, number);
                    numbersRead++;
                    number = 0;
                    digits = 0;
                } else {
                    return i;
                }
            }
            boolean complete = digits == 0 && numbersRead % NUMBERS_OF_A_FIRING == 0;
            return complete ? NONE : length;
        }

        int firingsRead() {
            return numbersRead / NUMBERS_OF_A_FIRING;
        }

        int number(int firing, int which) {
            return numbers.at(NUMBERS_OF_A_FIRING * firing + which);
        }

        private char separator() {
            boolean last = numbersRead % NUMBERS_OF_A_FIRING == NUMBERS_OF_A_FIRING - 1;
            return last ? ';' : ' ';
        }
    }
}
