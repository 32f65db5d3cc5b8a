/** Runs of calls that several tests need. */
final class Steps {
    private Steps() {
    }

    static void fire(KnockControl x, int count, int speed, int load, int energy) {
        for (int i = 0; i < count; i++) {
            x.fire(speed, load, energy);
        }
    }

    /** Makes the sensor of the control faulty with 20 firings without energy. */
    static void makeFaulty(KnockControl x) {
        fire(x, 20, 3000, 50, 0);
    }

    static void write(KnockControl x, String text) {
        for (int i = 0; i < text.length(); i++) {
            x.append(text.charAt(i));
        }
    }

    static void writeNew(KnockControl x, String text) {
        x.clearText();
        write(x, text);
    }
}
