/** Counts the answers that are not as due, and ends the test with exit code 1 if there was one. */
final class Check {
    static final int INVALID = -100001;
    static final int STATE = -100002;
    static final int FULL = -100003;
    static final int NONE = -100009;

    private int checked = 0;
    private int wrong = 0;

    void due(String call, long got, long want) {
        checked++;
        if (got != want) {
            wrong++;
            System.out.println(call + " answered " + got + ", due is " + want);
        }
    }

    boolean allRight() {
        return wrong == 0;
    }

    void finish() {
        System.out.println(checked + " answers looked at, " + wrong + " not as due");
        if (wrong != 0) {
            System.exit(1);
        }
    }

    /** Appends all characters of a text. */
    static void type(RoastKeeper keeper, String text) {
        for (char character : text.toCharArray()) {
            keeper.append(character);
        }
    }

    /** A roaster with a batch of a mass, roasted for some ticks at a power from a cold start. */
    static RoastKeeper roasting(int mass, int power, int ticks) {
        RoastKeeper keeper = new RoastKeeper();
        keeper.setPower(power);
        keeper.charge(mass);
        if (ticks > 0) {
            keeper.run(ticks);
        }
        return keeper;
    }
}
