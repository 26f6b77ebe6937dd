/** Calls that bring a new roaster into a state in which nothing is as it was at first. */
final class States {
    static final String[] NEW = {};
    /** Empty, with one batch in the log, points, rows, a text and a full history. */
    static final String[] EMPTY = {"setPower 90", "run 200", "setController 1 60 7 40", "setProbe 3 2",
        "setCrack 1500 20", "setFan 20", "setPoint 0 2000", "setPoint 60 2500", "setRow 500 1", "charge 200",
        "run 40", "drop", "run 60", "setAmbient 260", "takeAway", "setPower 90", "run 100", "type 5 6;"};
    /** A batch with pops, whose crack is detected and has not ended. */
    static final String[] ROASTING = Script.join(EMPTY, "charge 300", "run 12");
    /** Too hot to be taken away. */
    static final String[] COOLING = Script.join(ROASTING, "drop", "run 2");
    /** A batch with pops in each of the latest six ticks, whose crack was detected at age 8 and ended at age 10. */
    static final String[] POPPING = {"setPower 100", "run 200", "setFan 21", "setController 0 6 2 41",
        "setPoint 0 3000", "setCrack 1500 20", "charge 100", "run 9", "setCrack 1500 600", "run 1", "setCrack 1500 20",
        "run 3"};

    static final String[] NAMES = {"new", "empty", "roasting", "cooling", "popping"};
    static final String[][] ALL = {NEW, EMPTY, ROASTING, COOLING, POPPING};

    private States() {
    }
}
