/** Each action is taken back wholly by undo(), in each state and in runs of several; the text is left alone. */
public final class UndoTest {
    private static final Check CHECK = new Check();

    private static final String[] ACTIONS = {"setAmbient 0", "setAmbient 400", "setPower 0", "setPower 100",
        "setController 0 1 2 3", "setController 1 200 200 100", "setController 1 60 8 40", "setProbe 60 5", "setProbe 1 0",
        "setCrack 1500 1", "setCrack 2300 600", "setFan 1", "setFan 50", "setPoint 0 1", "setPoint 30 3000",
        "setPoint 400 0", "removePoint 0", "removePoint 60", "setRow 500 999", "setRow 0 1", "setRow 3000 1",
        "setRow 1000 -1", "setRow 500 -1", "charge 100", "charge 1000", "drop", "takeAway", "run 1", "run 7", "run 200"};

    public static void main(String[] args) {
        eachAction();
        severalActions();
        fullHistory();
        theTextStays();
        refusedCallsInBetween();
        CHECK.finish();
    }

    private static void due(String call, int got, int want) {
        CHECK.due(call, got, want);
    }

    /** The same state, but with an empty history, so that an action and its undo leave no trace in it. */
    private static String[] withoutHistory(String[] state) {
        return Script.join(state, "5x setFan 20", "5x undo");
    }

    private static void eachAction() {
        int[] taken = new int[ACTIONS.length];
        for (int s = 0; s < States.ALL.length; s++) {
            String[] before = withoutHistory(States.ALL[s]);
            for (int n = 0; n < ACTIONS.length; n++) {
                RoastKeeper k = Script.after(before);
                Script.play(k, ACTIONS[n]);
                if (k.count(11) == 1) {
                    taken[n]++;
                    due("undo", Twins.unchanged(CHECK, States.NAMES[s], before, ACTIONS[n], "undo"), 0);
                }
            }
        }
        String[] colder = withoutHistory(new String[] {"setAmbient 400", "charge 1000", "run 4"});
        for (String action : new String[] {"run 1", "run 200", "drop", "setPower 100"}) {
            due("undo", Twins.unchanged(CHECK, "colder than once", colder, action, "undo"), 0);
        }
        String[] cooled = withoutHistory(Script.join(States.COOLING, "run 100"));
        due("undo of takeAway", Twins.unchanged(CHECK, "cooled", cooled, "takeAway", "undo"), 0);
        for (int n = 0; n < ACTIONS.length; n++) {
            boolean always = !ACTIONS[n].equals("takeAway");
            CHECK.due(ACTIONS[n] + " succeeds in some state", taken[n] > 0 == always ? 1 : 0, 1);
        }
    }

    private static void severalActions() {
        String[][] runs = {
            {"drop", "run 150", "takeAway", "charge 700", "run 30", "5x undo"},
            {"run 50", "drop", "setProbe 9 1", "run 150", "takeAway", "5x undo"},
            {"setController 0 1 2 3", "setCrack 2000 77", "setFan 3", "setAmbient 9", "setPower 1", "5x undo"},
            {"removePoint 0", "removePoint 60", "setPoint 5 5", "setRow 500 -1", "setRow 6 6", "5x undo"},
            {"run 1", "undo", "run 2", "run 3", "undo", "undo", "run 4", "drop", "undo", "undo"},
            {"run 200", "setPower 5", "undo", "undo", "drop", "undo"},
        };
        String[] before = withoutHistory(States.ROASTING);
        for (String[] run : runs) {
            due("undo", Twins.unchanged(CHECK, "roasting", before, run), 0);
        }
    }

    /** With five states in the history, a sixth action costs the oldest one and no other. */
    private static void fullHistory() {
        String[] five = {"setPower 1", "setPower 2", "setPower 3", "setPower 4", "setPower 5"};
        RoastKeeper k = Script.after(Script.join(five, "setPower 6", "undo"));
        due("states left", k.count(11), 4);
        due("power", k.count(5), 5);
        int[] powers = {4, 3, 2, 1};
        for (int n = 0; n < powers.length; n++) {
            due("states left", k.undo(), 3 - n);
            due("power", k.count(5), powers[n]);
        }
        due("the oldest one is lost", k.undo(), Check.STATE);
        due("power", k.count(5), 1);
        k = Script.after(five);
        for (int left = 4; left >= 0; left--) {
            due("states left", k.undo(), left);
            due("power", k.count(5), left);
        }
        // after undo() there is room for new states
        k = Script.after(Script.join(five, "3x undo", "setPower 11", "setPower 12", "setPower 13"));
        due("five again", k.count(11), 5);
        int[] mixed = {12, 11, 2, 1, 0};
        for (int n = 0; n < mixed.length; n++) {
            due("states left", k.undo(), 4 - n);
            due("power", k.count(5), mixed[n]);
        }
        due("no more", k.undo(), Check.STATE);
    }

    private static void theTextStays() {
        RoastKeeper k = Script.after("type 1 2;", "setPower 5", "type 3 4;", "undo");
        due("appended characters stay", k.count(12), 8);
        due("and are read", k.load(), 2);
        due("load is an action", k.count(11), 1);
        due("undo of load", k.undo(), 0);
        due("the profile is as before", k.count(8), 0);
        due("the text stays empty", k.count(12), 0);
        k = Script.after("setPower 5", "type 1 2;", "clearText", "undo");
        due("a cleared text stays empty", k.count(12), 0);
        k = Script.after("setPoint 9 9", "type 1 2;", "load", "type 7", "undo");
        due("the text that came after load stays", k.count(12), 1);
        due("the point before load is back", k.target(0), 9);
        due("load of that text", k.load(), -200001);
    }

    private static void refusedCallsInBetween() {
        RoastKeeper k = Script.after("setPower 1", "setPower 101", "setFan 0", "drop", "takeAway", "removePoint 0",
            "setRow 5 -1", "run 0", "charge 99", "type x", "load", "setPower 2");
        due("only two were actions", k.count(11), 2);
        due("undo", k.undo(), 1);
        due("power", k.count(5), 1);
        due("undo", k.undo(), 0);
        due("power", k.count(5), 0);
    }
}
