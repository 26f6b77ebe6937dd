import java.util.ArrayList;
import java.util.List;

/**
 * Whole roasts, told tick by tick, beside the Model: each kind of setting, each state of the drum, old ages,
 * the end of the time, and batches that follow others.
 */
public final class RoastsTest {
    private static final Check CHECK = new Check();
    private static final List<String> LOOKS = looks();
    private static final int LAST = 420;

    private static final String[] HOT = {"setPower 100", "run 200"};
    private static final String[] PROFILE = {"setPoint 0 900", "setPoint 60 1500", "setPoint 180 2100",
        "setPoint 300 2300", "setPoint 310 900"};

    public static void main(String[] args) {
        byPower();
        byController();
        cooling();
        losses();
        batchesAfterOthers();
        hotBatchesBroughtBack();
        lateRoasts();
        CHECK.finish();
    }

    private static List<String> looks() {
        List<String> looks = new ArrayList<>();
        for (int what = 0; what <= 12; what++) {
            looks.add("count " + what);
        }
        for (int what = 0; what <= 9; what++) {
            looks.add("batch " + what);
        }
        for (int what = 0; what <= 5; what++) {
            looks.add("logged 0 " + what);
            looks.add("logged 1 " + what);
        }
        return looks;
    }

    /** All ticks from 1 to 60, and then some of them. */
    private static void eachTick(String[] start, int last) {
        for (int tick = 1; tick <= last; tick += tick < 60 ? 1 : 7) {
            String[] calls = start;
            for (int left = tick; left > 0; left -= 200) {
                calls = Script.join(calls, "run " + Math.min(left, 200));
            }
            same(calls);
        }
    }

    private static void same(String[] calls) {
        RoastKeeper keeper = new RoastKeeper();
        Model model = new Model();
        for (String call : calls) {
            alike(calls, keeper, model, call);
        }
        for (String look : LOOKS) {
            alike(calls, keeper, model, look);
        }
        for (String forecast : new String[] {"ticksTo 1500", "ticksTo 2200", "ticksToLoss 700", "bestBias 3"}) {
            alike(calls, keeper, model, forecast);
        }
    }

    private static void alike(String[] calls, RoastKeeper keeper, Model model, String call) {
        int want = Script.play(model, call);
        int got = Script.play(keeper, call);
        CHECK.due(got == want ? call : String.join(", ", calls) + ": " + call, got, want);
    }

    private static void byPower() {
        for (int mass : new int[] {100, 420, 1000}) {
            for (int power : new int[] {0, 45, 100}) {
                String[] batch = {"charge " + mass, "setPower " + power};
                eachTick(batch, LAST);
                eachTick(Script.join(HOT, batch), LAST);
                eachTick(Script.join(Script.join(HOT, "setCrack 1500 90", "setProbe 1 0", "setAmbient 0"), batch), LAST);
                eachTick(Script.join(Script.join(HOT, "setCrack 1700 600", "setProbe 60 0", "setAmbient 400"), batch), LAST);
                eachTick(Script.join(Script.join(HOT, "setCrack 2300 1"), batch), LAST);
            }
        }
    }

    private static void byController() {
        String[] controllers = {"setController 1 50 5 50", "setController 1 200 200 100", "setController 1 0 200 0",
            "setController 1 20 0 30", "setController 1 3 2 40"};
        for (String controller : controllers) {
            String[] start = Script.join(PROFILE, controller, "setCrack 1600 20", "charge 300");
            eachTick(start, LAST);
            eachTick(Script.join(HOT, start), LAST);
            eachTick(Script.join(new String[] {"setAmbient 0", "setProbe 20 0"}, start), LAST);
            eachTick(new String[] {"setPoint 400 3000", "setRow 0 3", "setCrack 2200 1", controller, "charge 1000"}, LAST);
        }
    }

    private static void cooling() {
        String[] roast = Script.join(Script.join(HOT, PROFILE), "setController 1 50 5 50", "setCrack 1500 90", "charge 300",
            "run 12", "drop");
        for (int fan : new int[] {1, 10, 50}) {
            for (int ambient : new int[] {0, 251, 400}) {
                eachTick(Script.join(roast, "setFan " + fan, "setAmbient " + ambient), 200);
            }
        }
        eachTick(new String[] {"setAmbient 0", "charge 1000", "run 200", "drop", "setAmbient 400", "setFan 3"}, 200);
        String[] old = Script.join(HOT, "setRow 0 999", "setCrack 1500 90", "charge 500", "run 150", "drop");
        eachTick(old, 200);
        eachTick(Script.join(old, "setPower 0", "run 50", "run 100", "takeAway"), 200);
    }

    /** Without any rows, and with so great a rate that more than the whole mass is lost before the crack. */
    private static void losses() {
        String[] none = Script.join(HOT, "setRow 1000 -1", "setRow 1500 -1", "setRow 1900 -1", "setRow 2100 -1");
        eachTick(Script.join(none, "setCrack 1500 60", "charge 300"), LAST);
        eachTick(Script.join(none, "setCrack 1500 60", "charge 300", "run 12", "drop"), 60);
        String[] all = {"setRow 0 999", "setRow 1000 999", "setRow 1500 999", "setRow 1900 999", "setRow 2100 999"};
        String[] slow = Script.join(all, "setCrack 1500 20", "setPower 55", "charge 1000");
        eachTick(slow, LAST);
        eachTick(Script.join(slow, "run 150", "drop"), 60);
        for (int ticks = 150; ticks <= 200; ticks++) {
            same(Script.join(slow, "run " + ticks, "run 40", "undo"));
        }
        eachTick(Script.join(slow, "setCrack 1500 600", "run 124", "setCrack 1500 1"), 20);
    }

    /** Nothing of a batch is left in the next one, however rich it was, and undo() brings all of it back. */
    private static void batchesAfterOthers() {
        String[][] firsts = {{"charge 1000", "run 200", "drop"}, {"charge 200", "run 200", "drop"},
            {"charge 300", "run 9", "drop"}, {"charge 100", "run 13", "drop"}, {"charge 1000", "drop"},
            {"setRow 0 999", "charge 700", "run 150", "drop"}, {"charge 1000", "setPower 0", "run 50", "drop"},
            {"charge 1000", "setPower 0", "run 120", "setPower 100", "drop"},
            {"charge 100", "run 9", "setCrack 1500 600", "run 1", "setCrack 1500 60", "run 3", "drop"}};
        for (String[] first : firsts) {
            for (String mass : new String[] {"charge 100", "charge 1000"}) {
                String[] start = Script.join(Script.join(HOT, "setCrack 1500 60"), first);
                start = Script.join(start, "setFan 50", "run 100", "setAmbient 300", "takeAway", mass);
                eachTick(start, 60);
                for (String[] second : new String[][] {{"undo"}, {"run 12", "2x undo"}, {"run 150", "5x undo"},
                    {"run 9", "drop", "3x undo"}, {"run 200", "drop", "run 100", "takeAway", "5x undo"}}) {
                    same(Script.join(start, second));
                    same(Script.join(Script.join(start, second), "run 3"));
                }
            }
        }
    }

    /** From a batch that is cold and young, or from none, back to one that was at its hottest. */
    private static void hotBatchesBroughtBack() {
        String[] start = Script.join(HOT, "setFan 50", "setCrack 1500 60");
        for (String mass : new String[] {"charge 100", "charge 1000"}) {
            for (String ticks : new String[] {"run 9", "run 12", "run 40", "run 199"}) {
                String[] calls = Script.join(start, mass, ticks, "drop", "run 60", "takeAway", "charge 400", "run 1");
                String[] more = Script.join(start, "setRow 0 999", mass, ticks, "5x setPower 100", "drop", "run 60",
                    "takeAway", "charge 400", "5x setPower 100", "run 1");
                for (int undos = 1; undos <= 5; undos++) {
                    same(Script.join(calls, undos + "x undo"));
                    same(Script.join(calls, undos + "x undo", "run 2"));
                    same(Script.join(more, undos + "x undo"));
                }
            }
        }
    }

    /** The cold roaster stays as it is for 9000 ticks, and a roast is the same then. */
    private static void lateRoasts() {
        String[] late = {"45x run 200"};
        eachTick(Script.join(late, "setPower 100", "run 200", "setCrack 1500 60", "charge 300"), 350);
        String[] steered = Script.join(Script.join(late, PROFILE), "setController 1 50 5 50", "setCrack 1700 9",
            "charge 300");
        eachTick(steered, LAST);
        eachTick(Script.join(steered, "run 150", "drop"), 200);
        eachTick(Script.join(steered, "run 5", "drop", "setFan 50", "run 30", "takeAway", "charge 100"), 20);
    }
}
