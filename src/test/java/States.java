/** Calls that bring a new roaster into a state in which nothing is as it was at first. */
final class States {
    static final String[] NEW = {};
    /** Empty, with one batch in the log, points, rows, a text and a full history. */
    static final String[] EMPTY = {"setPower 90", "run 200", "setController 1 60 7 40", "setProbe 3 2",
        "setCrack 1500 20", "setFan 20", "setPoint 0 2000", "setPoint 60 2500", "setRow 500 1", "charge 200",
        "run 40", "drop", "run 60", "setAmbient 260", "takeAway", "setPower 90", "run 100", "type 5 6;"};
    /** A batch with pops, whose crack is detected and has not ended. */
    static final String[] ROASTING = Script.join(EMPTY, "charge 300", "run 12");
    /** Too hot to be taken away. */
    static final String[] COOLING = Script.join(ROASTING, "drop", "run 2");

    static final String[] NAMES = {"new", "empty", "roasting", "cooling"};
    static final String[][] ALL = {NEW, EMPTY, ROASTING, COOLING};

    private States() {
    }
}
