/**
 * Each ILLEGAL_STATE, CAPACITY_EXCEEDED, error of a text and NONE that a promise names, with its condition
 * and the nearest case in which it does not apply; the first of several conditions; and that a refused
 * call changes nothing.
 */
public final class RefusedTest {
    private static final Check CHECK = new Check();

    /** Eight points at 10, 20 .. 80. */
    private static final String[] FULL_PROFILE = {"setPoint 10 1", "setPoint 20 2", "setPoint 30 3", "setPoint 40 4",
        "setPoint 50 5", "setPoint 60 6", "setPoint 70 7", "setPoint 80 8"};
    /** Six rows: those at first, and two more. */
    private static final String[] FULL_TABLE = {"setRow 0 9", "setRow 3000 8"};
    private static final String[] END_OF_TIME = {"setPower 50", "50x run 200"};

    public static void main(String[] args) {
        profile();
        table();
        text();
        errorsOfTexts();
        charge();
        drop();
        takeAway();
        run();
        undo();
        batch();
        forecasts();
        noneOfTheLooks();
        noneOfTheForecasts();
        looksChangeNothing();
        CHECK.finish();
    }

    private static void due(String call, int got, int want) {
        CHECK.due(call, got, want);
    }

    private static void refused(int code, String call, String... before) {
        Twins.refused(CHECK, "after " + before.length + " calls", before, call, code);
    }

    private static void answers(int answer, String call, String... before) {
        due(call + " after " + String.join(", ", before), Script.play(Script.after(before), call), answer);
    }

    private static void profile() {
        refused(Check.FULL, "setPoint 9 100", FULL_PROFILE);
        refused(Check.FULL, "setPoint 11 100", FULL_PROFILE);
        refused(Check.FULL, "setPoint 81 100", FULL_PROFILE);
        refused(Check.FULL, "setPoint 0 0", FULL_PROFILE);
        refused(Check.FULL, "setPoint 400 3000", FULL_PROFILE);
        for (int tick = 10; tick <= 80; tick += 10) {
            answers(8, "setPoint " + tick + " 2999", FULL_PROFILE);
        }
        refused(Check.INVALID, "setPoint 401 100", FULL_PROFILE);
        refused(Check.INVALID, "setPoint -1 100", FULL_PROFILE);
        refused(Check.INVALID, "setPoint 11 3001", FULL_PROFILE);
        refused(Check.INVALID, "setPoint 10 3001", FULL_PROFILE);
        refused(Check.INVALID, "setPoint 11 -1", FULL_PROFILE);
        answers(8, "setPoint 11 100", Script.join(FULL_PROFILE, "removePoint 80"));

        refused(Check.STATE, "removePoint 0", States.NEW);
        refused(Check.STATE, "removePoint 400", States.NEW);
        refused(Check.STATE, "removePoint 9", FULL_PROFILE);
        refused(Check.STATE, "removePoint 11", FULL_PROFILE);
        refused(Check.STATE, "removePoint 79", FULL_PROFILE);
        refused(Check.STATE, "removePoint 81", FULL_PROFILE);
        refused(Check.STATE, "removePoint 10", Script.join(FULL_PROFILE, "removePoint 10"));
        refused(Check.STATE, "removePoint 80", Script.join(FULL_PROFILE, "removePoint 80"));
        refused(Check.INVALID, "removePoint -1", FULL_PROFILE);
        refused(Check.INVALID, "removePoint 401", FULL_PROFILE);
        answers(1, "removePoint 10", FULL_PROFILE);
        answers(8, "removePoint 80", FULL_PROFILE);
    }

    private static void table() {
        refused(Check.FULL, "setRow 1 5", FULL_TABLE);
        refused(Check.FULL, "setRow 999 0", FULL_TABLE);
        refused(Check.FULL, "setRow 2999 999", FULL_TABLE);
        for (int temperature : new int[] {0, 1000, 1500, 1900, 2100, 3000}) {
            answers(6, "setRow " + temperature + " 5", FULL_TABLE);
            answers(5, "setRow " + temperature + " -1", FULL_TABLE);
        }
        answers(6, "setRow 1 5", Script.join(FULL_TABLE, "setRow 3000 -1"));

        refused(Check.STATE, "setRow 999 -1", States.NEW);
        refused(Check.STATE, "setRow 1001 -1", States.NEW);
        refused(Check.STATE, "setRow 0 -1", States.NEW);
        refused(Check.STATE, "setRow 3000 -1", States.NEW);
        refused(Check.STATE, "setRow 1000 -1", "setRow 1000 -1");
        String[] none = {"setRow 1000 -1", "setRow 1500 -1", "setRow 1900 -1", "setRow 2100 -1"};
        refused(Check.STATE, "setRow 2100 -1", none);
        // a removal from the full table makes no seventh row, so the missing row is what is wrong
        refused(Check.STATE, "setRow 1 -1", FULL_TABLE);
        refused(Check.INVALID, "setRow -1 -1", FULL_TABLE);
        refused(Check.INVALID, "setRow 3001 -1", FULL_TABLE);
        refused(Check.INVALID, "setRow 3001 5", FULL_TABLE);
        refused(Check.INVALID, "setRow 1 -2", FULL_TABLE);
        refused(Check.INVALID, "setRow 1 1000", FULL_TABLE);
    }

    private static void text() {
        String[] full = {"type 0 1;", "96x append 32"};
        refused(Check.FULL, "append 32", full);
        refused(Check.FULL, "append 1", full);
        refused(Check.FULL, "append 255", full);
        refused(Check.INVALID, "append 0", full);
        refused(Check.INVALID, "append 256", full);
        answers(100, "append 32", "type 0 1;", "95x append 32");
        answers(1, "append 32", Script.join(full, "clearText"));
        answers(1, "append 32", Script.join(full, "load"));
    }

    private static void errorsOfTexts() {
        String[] texts = {"x", "7", "0 1;x", "0 1;0 1;", "401 1;", "0 3001;", "01 1;", "0 1",
            "0 1;1 1;2 1;3 1;4 1;5 1;6 1;7 1;8 1;"};
        int[] positions = {0, 1, 4, 4, 0, 2, 0, 3, 32};
        for (int n = 0; n < texts.length; n++) {
            refused(-200000 - positions[n], "load", Script.join(FULL_PROFILE, "type " + texts[n]));
            for (String[] state : States.ALL) {
                refused(-200000 - positions[n], "load", Script.join(state, "clearText", "type " + texts[n]));
            }
        }
        refused(-200100, "load", "99x append 32", "append 55");
        refused(-200099, "load", "99x append 32", "append 59");
    }

    private static void charge() {
        refused(Check.STATE, "charge 100", States.ROASTING);
        refused(Check.STATE, "charge 1000", States.COOLING);
        refused(Check.STATE, "charge 300", "charge 300");
        refused(Check.STATE, "charge 300", "charge 300", "drop");
        refused(Check.INVALID, "charge 99", States.ROASTING);
        refused(Check.INVALID, "charge 1001", States.COOLING);
        answers(250, "charge 300", "charge 300", "drop", "takeAway");
    }

    private static void drop() {
        refused(Check.STATE, "drop", States.NEW);
        refused(Check.STATE, "drop", States.EMPTY);
        refused(Check.STATE, "drop", States.COOLING);
        refused(Check.STATE, "drop", "charge 300", "drop");
        answers(0, "drop", "charge 300");
    }

    private static void takeAway() {
        refused(Check.STATE, "takeAway", States.NEW);
        refused(Check.STATE, "takeAway", States.EMPTY);
        refused(Check.STATE, "takeAway", States.ROASTING);
        refused(Check.STATE, "takeAway", States.COOLING);
        refused(Check.STATE, "takeAway", "charge 300");
        String[] warm = {"setAmbient 400", "charge 300", "drop"};
        refused(Check.STATE, "takeAway", Script.join(warm, "setAmbient 249"));
        refused(Check.STATE, "takeAway", Script.join(warm, "setAmbient 0"));
        answers(400, "takeAway", Script.join(warm, "setAmbient 250"));
        answers(400, "takeAway", Script.join(warm, "setAmbient 251"));
        // beans below the ambient temperature are not above it
        answers(0, "takeAway", "setAmbient 0", "charge 300", "drop", "setAmbient 400");
        answers(0, "takeAway", "setAmbient 0", "charge 300", "drop", "setAmbient 150");
        refused(Check.STATE, "takeAway", "setAmbient 151", "charge 300", "drop", "setAmbient 0");
        answers(150, "takeAway", "setAmbient 150", "charge 300", "drop", "setAmbient 0");
    }

    private static void run() {
        refused(Check.FULL, "run 1", END_OF_TIME);
        refused(Check.FULL, "run 200", END_OF_TIME);
        refused(Check.INVALID, "run 0", END_OF_TIME);
        refused(Check.INVALID, "run 201", END_OF_TIME);
        String[] nearly = {"49x run 200", "run 199"};
        refused(Check.FULL, "run 2", nearly);
        refused(Check.FULL, "run 200", nearly);
        refused(Check.INVALID, "run 201", nearly);
        answers(250, "run 1", nearly);
        due("time 10000", Script.play(Script.after(Script.join(nearly, "run 1")), "count 0"), 10000);
        String[] before = {"49x run 200"};
        refused(Check.FULL, "run 200", Script.join(before, "run 1"));
        answers(250, "run 200", before);
        answers(250, "run 199", Script.join(before, "run 1"));
        // an undo takes the time back, so that there is room again
        answers(250, "run 200", Script.join(before, "run 200", "undo"));
        refused(Check.FULL, "run 1", "49x run 200", "charge 300", "run 200");
    }

    private static void undo() {
        refused(Check.STATE, "undo", States.NEW);
        refused(Check.STATE, "undo", "setPower 5", "undo");
        refused(Check.STATE, "undo", Script.join(States.ROASTING, "5x undo"));
        refused(Check.STATE, "undo", Script.join(States.COOLING, "5x undo"));
        // what is no action leaves nothing to undo
        refused(Check.STATE, "undo", "type 0 1;", "clearText", "type x", "load", "setPower 101", "drop");
        answers(0, "undo", "setPower 5");
        answers(0, "undo", Script.join(States.ROASTING, "4x undo"));
    }

    private static void batch() {
        for (int what = 0; what <= 9; what++) {
            refused(Check.STATE, "batch " + what, States.NEW);
            refused(Check.STATE, "batch " + what, States.EMPTY);
            for (String[] state : new String[][] {States.ROASTING, States.COOLING}) {
                int answer = Script.play(Script.after(state), "batch " + what);
                due("is there a batch(" + what + ")", answer == Check.STATE ? 0 : 1, 1);
            }
        }
        refused(Check.INVALID, "batch -1", States.EMPTY);
        refused(Check.INVALID, "batch 10", States.EMPTY);
    }

    private static void forecasts() {
        for (String[] state : new String[][] {States.NEW, States.EMPTY, States.COOLING}) {
            refused(Check.STATE, "ticksTo 0", state);
            refused(Check.STATE, "ticksTo 3000", state);
            refused(Check.STATE, "ticksToLoss 0", state);
            refused(Check.STATE, "ticksToLoss 100000", state);
            refused(Check.STATE, "bestBias 1", state);
            refused(Check.STATE, "bestBias 100", state);
            refused(Check.INVALID, "ticksTo 3001", state);
            refused(Check.INVALID, "ticksTo -1", state);
            refused(Check.INVALID, "ticksToLoss 100001", state);
            refused(Check.INVALID, "ticksToLoss -1", state);
            refused(Check.INVALID, "bestBias 0", state);
            refused(Check.INVALID, "bestBias 101", state);
        }
        refused(Check.STATE, "bestBias 1", "charge 300");
        refused(Check.STATE, "bestBias 1", "setPoint 0 250", "charge 300", "removePoint 0");
        refused(Check.STATE, "bestBias 1", "setPoint 0 250");
        refused(Check.STATE, "bestBias 1", "setPoint 0 250", "charge 300", "drop");
        refused(Check.INVALID, "bestBias 0", "charge 300");
        refused(Check.INVALID, "bestBias 101", "charge 300");
        answers(0, "bestBias 1", "setPoint 0 250", "charge 300");
        answers(0, "ticksTo 0", "charge 300");
        answers(0, "ticksToLoss 0", "charge 300");
    }

    private static void noneOfTheLooks() {
        for (int tick : new int[] {0, 1, 400, 1000}) {
            answers(Check.NONE, "target " + tick, States.NEW);
            answers(Check.NONE, "target " + tick, "setPoint 400 1", "removePoint 400");
            answers(1, "target " + tick, "setPoint 400 1");
        }
        answers(Check.INVALID, "target -1", States.NEW);
        answers(Check.INVALID, "target 1001", States.NEW);
        for (int what = 0; what <= 5; what++) {
            answers(Check.NONE, "logged 0 " + what, "charge 100");
            answers(Check.NONE, "logged 1 " + what, "charge 100", "drop");
            answers(Check.NONE, "logged 2147483647 " + what, "charge 100", "drop");
            int latest = Script.play(Script.after("charge 100", "drop"), "logged 0 " + what);
            due("is there a logged(0, " + what + ")", latest == Check.NONE ? 0 : 1, what == 2 || what == 3 ? 0 : 1);
        }
        answers(Check.INVALID, "logged -1 0", States.NEW);
        answers(Check.INVALID, "logged 0 -1", States.NEW);
        answers(Check.INVALID, "logged 0 6", States.NEW);
        answers(Check.INVALID, "logged 2147483647 6", States.NEW);
        answers(Check.INVALID, "drift 0", States.NEW);
        answers(Check.INVALID, "drift 6", States.NEW);
        for (int what = 1; what <= 5; what++) {
            answers(Check.NONE, "drift " + what, States.NEW);
            answers(Check.NONE, "drift " + what, "charge 100", "drop");
            int told = what == 2 || what == 3 ? Check.NONE : 0;
            answers(told, "drift " + what, "charge 100", "drop", "takeAway", "charge 100", "drop");
        }
        for (int what = 7; what <= 8; what++) {
            answers(Check.NONE, "batch " + what, "charge 100", "run 1");
            answers(Check.STATE, "batch " + what, States.NEW);
        }
    }

    private static void noneOfTheForecasts() {
        answers(Check.NONE, "ticksTo 251", "charge 100");
        answers(0, "ticksTo 250", "charge 100");
        answers(Check.NONE, "ticksToLoss 1", "charge 100");
        answers(200, "ticksToLoss 200", "setRow 0 1", "charge 100");
        answers(Check.NONE, "ticksToLoss 201", "setRow 0 1", "charge 100");
        answers(1, "ticksToLoss 201", "setRow 0 1", "charge 100", "run 200");
        answers(Check.INVALID, "ticksTo 3001", "charge 100");
        answers(Check.INVALID, "ticksToLoss 100001", "charge 100");
    }

    private static void looksChangeNothing() {
        String[] calls = {"count 0", "count 11", "batch 0", "batch 9", "target 7", "target 1000", "rate 3000",
            "logged 0 5", "logged 7 0", "drift 1", "drift 5", "ticksTo 0", "ticksTo 1900", "ticksTo 3000",
            "ticksToLoss 0", "ticksToLoss 500", "ticksToLoss 100000", "bestBias 1", "bestBias 100"};
        for (String call : calls) {
            for (int s = 0; s < States.ALL.length; s++) {
                Twins.unchanged(CHECK, States.NAMES[s], States.ALL[s], call);
            }
            Twins.unchanged(CHECK, "at the end of the time", Script.join(END_OF_TIME, "setPoint 0 900", "charge 300"),
                call);
        }
    }
}
