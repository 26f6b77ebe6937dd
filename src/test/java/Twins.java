import java.util.ArrayList;
import java.util.HashMap;
import java.util.List;
import java.util.Map;

/**
 * Tells whether calls change anything that a later call shows: two roasters are made alike, one of them
 * gets the calls, and all answers of what follows are compared.
 */
final class Twins {
    private static final String[] LOOKS = looks();
    private static final List<String[]> FUTURES = futures();
    private static final Map<String, List<int[]>> KNOWN = new HashMap<>();
    private static final int MOST_CALLS = 512;

    private Twins() {
    }

    /** The answer of the last one of the calls; each change that they leave is told as a wrong answer. */
    static int unchanged(Check check, String where, String[] before, String... calls) {
        List<int[]> alone = KNOWN.computeIfAbsent(String.join(", ", before), n -> answers(before));
        List<int[]> called = answers(before, calls);
        String call = String.join(", ", calls);
        for (int f = 0; f < alone.size(); f++) {
            int differing = firstDifference(alone.get(f), called.get(f));
            String later = differing < 0 ? "" : FUTURES.get(f)[differing] + ", the call " + differing + " of future " + f;
            check.due(where + ": " + call + " changes " + later, differing, -1);
        }
        RoastKeeper keeper = Script.after(before);
        int answer = 0;
        for (String each : calls) {
            answer = Script.play(keeper, each);
        }
        return answer;
    }

    /** The call is refused with this code, and changes nothing. */
    static void refused(Check check, String where, String[] before, String call, int code) {
        check.due(where + ": " + call, unchanged(check, where, before, call), code);
    }

    private static List<int[]> answers(String[] before, String... calls) {
        List<int[]> all = new ArrayList<>();
        for (String[] future : FUTURES) {
            if (Script.length(before) + Script.length(calls) + Script.length(future) > MOST_CALLS) {
                throw new IllegalStateException("more than 512 calls: " + String.join(", ", before));
            }
            RoastKeeper keeper = Script.after(Script.join(before, calls));
            int[] answers = new int[future.length];
            for (int n = 0; n < future.length; n++) {
                answers[n] = Script.play(keeper, future[n]);
            }
            all.add(answers);
        }
        return all;
    }

    private static int firstDifference(int[] one, int[] other) {
        for (int n = 0; n < one.length; n++) {
            if (one[n] != other[n]) {
                return n;
            }
        }
        return -1;
    }

    private static String[] looks() {
        List<String> looks = new ArrayList<>();
        for (int what = 0; what <= 12; what++) {
            looks.add("count " + what);
        }
        for (int what = 0; what <= 9; what++) {
            looks.add("batch " + what);
        }
        for (int what = 0; what <= 5; what++) {
            looks.add("logged 0 " + what);
            looks.add("logged 1 " + what);
            looks.add("logged 7 " + what);
        }
        for (int what = 1; what <= 5; what++) {
            looks.add("drift " + what);
        }
        for (int tick : new int[] {0, 5, 30, 60, 400}) {
            looks.add("target " + tick);
        }
        return looks.toArray(new String[0]);
    }

    private static List<String[]> futures() {
        List<String[]> futures = new ArrayList<>();
        String[] going = Script.join(LOOKS, "run 3", "ticksTo 1900", "ticksToLoss 300", "bestBias 9");
        going = Script.join(Script.join(going, "drop", "run 30", "takeAway"), LOOKS);
        going = Script.join(Script.join(going, "charge 500", "run 40", "drop"), LOOKS);
        futures.add(going);
        String[] back = {};
        for (int n = 0; n < 6; n++) {
            back = Script.join(Script.join(back, "undo"), LOOKS);
        }
        futures.add(back);
        futures.add(new String[] {"setAmbient 250", "setPower 0", "setProbe 4 0", "setFan 10", "setCrack 1500 20",
            "setController 1 60 7 40", "undo", "setController 0 50 5 50", "undo", "setCrack 1960 30", "append 32",
            "load", "count 8", "count 12", "clearText"});
        String[] text = Script.join(new String[] {"load", "count 8", "append 59", "load"}, LOOKS);
        futures.add(text);
        futures.add(range("target", 0, 200, 1));
        futures.add(range("target", 201, 401, 1));
        futures.add(Script.join(range("rate", 0, 3000, 50), range("rate", 49, 2999, 50)));
        return futures;
    }

    private static String[] range(String method, int from, int to, int step) {
        List<String> calls = new ArrayList<>();
        for (int n = from; n <= to; n += step) {
            calls.add(method + " " + n);
        }
        return calls.toArray(new String[0]);
    }
}
