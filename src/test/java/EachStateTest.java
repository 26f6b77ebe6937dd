import java.util.ArrayList;
import java.util.HashMap;
import java.util.List;
import java.util.Map;

/**
 * Every call in every kind of state: its answer, and each look after it. What a call changes is told in
 * due() and after(); all else has to stay as it was, and so has what no look shows (hidden()).
 */
public final class EachStateTest {
    private static final Check CHECK = new Check();
    private static final Integer ANY = null;
    private static final List<String> LOOKS = looks();

    /** A state, with all of it that no look tells. */
    private record State(String name, String[] calls, int fan, int fouling, String controller, String crack,
            String text) {
        RoastKeeper make() {
            return Script.after(calls);
        }
    }

    /** What all looks told before a call. */
    private record Before(State state, Map<String, Integer> told) {
        int at(String look) {
            return told.get(look);
        }

        boolean is(int phase) {
            return at("count 1") == phase;
        }
    }

    private static final int EMPTY = 0;
    private static final int ROASTING = 1;
    private static final int COOLING = 2;

    private static final String[] CALLS = {"setAmbient 123", "setAmbient same", "setPower 45", "setPower same",
        "setController 1 33 44 55", "setController same", "setProbe 33 2", "setProbe same", "setCrack 1777 77",
        "setCrack same", "setFan 33", "setFan same", "setPoint 0 1234", "setPoint 399 2345", "setPoint 400 1",
        "removePoint 0", "removePoint 399", "removePoint 400", "setRow 7 8", "setRow 1000 3", "setRow 7 -1",
        "setRow 1000 -1", "setRow 3000 -1", "append 32", "append 120", "clearText", "load", "charge 345", "drop",
        "takeAway", "run 1", "run 37", "undo", "count 0", "batch 9", "target 3", "rate 1000", "logged 7 0", "drift 4",
        "ticksTo 0", "ticksTo 3000", "ticksToLoss 0", "ticksToLoss 100000", "bestBias 1", "bestBias 7"};

    public static void main(String[] args) {
        List<State> states = states();
        for (State state : states) {
            for (String call : CALLS) {
                compare(state, call);
            }
        }
        eachKindOfStateIsThere(states);
        CHECK.finish();
    }

    private static List<String> looks() {
        List<String> looks = new ArrayList<>();
        for (int what = 0; what <= 12; what++) {
            looks.add("count " + what);
        }
        for (int what = 0; what <= 9; what++) {
            looks.add("batch " + what);
        }
        for (int index = 0; index <= 8; index++) {
            for (int what = 0; what <= 5; what++) {
                looks.add("logged " + index + " " + what);
            }
        }
        for (int what = 1; what <= 5; what++) {
            looks.add("drift " + what);
        }
        for (int tick : new int[] {0, 1, 200, 399, 400, 1000}) {
            looks.add("target " + tick);
        }
        for (int temperature : new int[] {0, 7, 999, 1000, 1500, 1900, 2100, 3000}) {
            looks.add("rate " + temperature);
        }
        return looks;
    }

    private static Map<String, Integer> look(RoastKeeper keeper) {
        Map<String, Integer> told = new HashMap<>();
        for (String look : LOOKS) {
            told.put(look, Script.play(keeper, look));
        }
        return told;
    }

    // ---- the states

    private static final String[] SETTINGS = {"setFan 21", "setController 1 61 7 41", "setCrack 1500 20"};
    private static final String[] HOT = {"setPower 100", "run 200"};
    private static final String[] FULL_PROFILE = {"setPoint 0 900", "setPoint 20 1100", "setPoint 40 1300",
        "setPoint 60 1500", "setPoint 80 1600", "setPoint 200 2000", "setPoint 300 2200", "setPoint 399 2300"};
    private static final String[] BARE_TABLE = {"setRow 1000 -1", "setRow 1500 -1", "setRow 1900 -1", "setRow 2100 -1"};

    private static List<State> states() {
        List<State> states = new ArrayList<>();
        String none = "";
        phases(states, "new", new String[] {}, 10, 0, "0 50 5 50", "1960 30", none);
        phases(states, "hot", Script.join(HOT, SETTINGS), 21, 0, "1 61 7 41", "1500 20", none);
        String[] full = {};
        for (int n = 1; n <= 9; n++) {
            full = Script.join(full, "charge " + 100 * n, "run " + (10 - n), "drop", "takeAway");
        }
        full = Script.join(Script.join(Script.join(full, HOT), SETTINGS), FULL_PROFILE);
        full = Script.join(full, "setRow 0 1", "setRow 3000 99", "setProbe 58 5", "setAmbient 300",
            "type 5 6; 7 8;", "91x append 32");
        phases(states, "full", full, 21, 5, "1 61 7 41", "1500 20", "5 6; 7 8;" + " ".repeat(91));
        String[] bare = Script.join(BARE_TABLE, "setProbe 1 3", "setController 1 61 7 41", "setAmbient 0", "type 400");
        phases(states, "bare", bare, 10, 3, "1 61 7 41", "1960 30", "400");
        late(states);
        return states;
    }

    /** The same settings with an empty roaster, a fresh batch, an older one, a hot one that cools, and a cold one. */
    private static void phases(List<State> states, String name, String[] calls, int fan, int fouling,
            String controller, String crack, String text) {
        String[][] ends = {{}, {"charge 200"}, {"charge 200", "run 9"}, {"charge 200", "run 40"},
            {"charge 200", "run 60", "run 100"}, {"charge 200", "run 40", "drop"},
            {"charge 200", "run 40", "drop", "run 200"}, {"charge 200", "run 40", "5x setPower 0", "4x undo"},
            {"charge 200", "run 40", "5x setPower 0", "5x undo"}, {"5x setPower 0", "4x undo"}, {"5x setPower 0", "5x undo"}};
        for (String[] end : ends) {
            String[] all = Script.join(calls, end);
            states.add(new State(name + ", " + String.join(", ", end), all, fan, fouling, controller, crack, text));
        }
    }

    private static void late(List<State> states) {
        String[] end = {"49x run 200"};
        String[][] calls = {{"run 200"}, {"run 199"}, {"charge 300", "run 200"}, {"run 200", "charge 300"},
            {"charge 300", "run 100", "drop", "run 100"}};
        for (String[] last : calls) {
            String[] all = Script.join(Script.join(Script.join(HOT, SETTINGS), "type x", "setPoint 0 2000"),
                "48x run 200");
            states.add(new State("late, " + last[0], Script.join(all, last), 21, 0, "1 61 7 41", "1500 20", "x"));
        }
        states.add(new State("late and cold", Script.join(end, "run 200"), 10, 0, "0 50 5 50", "1960 30", ""));
    }

    private static void eachKindOfStateIsThere(List<State> states) {
        String[] kinds = {"count 0=10000", "count 1=0", "count 1=1", "count 1=2", "count 5=0", "count 5=100", "count 6=1",
            "count 6=60", "count 8=0", "count 8=8", "count 9=0", "count 9=6", "count 10=0", "count 10=8", "count 11=0",
            "count 11=1", "count 11=5", "count 12=0", "count 12=100", "batch 2=0", "batch 4=1000"};
        for (String kind : kinds) {
            String[] parts = kind.split("=");
            int found = 0;
            for (State state : states) {
                found += Script.play(state.make(), parts[0]) == Integer.parseInt(parts[1]) ? 1 : 0;
            }
            CHECK.due("is there a state with " + kind, found > 0 ? 1 : 0, 1);
        }
    }

    // ---- the comparison

    private static void compare(State state, String text) {
        String call = text.endsWith(" same") ? same(state, text.replace(" same", "")) : text;
        String where = state.name + ": " + call;
        Before before = new Before(state, look(state.make()));
        RoastKeeper keeper = state.make();
        Integer due = due(before, call);
        int got = Script.play(keeper, call);
        if (due != ANY) {
            CHECK.due(where, got, due);
        }
        boolean refused = due != ANY && (due >= Check.FULL && due <= Check.INVALID || due <= -200000);
        Map<String, Integer> after = look(keeper);
        for (String look : LOOKS) {
            Integer want = refused ? before.told.get(look) : after(before, call, got, look);
            if (want != ANY) {
                CHECK.due(where + ", then " + look, after.get(look), want);
            }
        }
        hidden(state, call, refused);
    }

    /** The setting that changes nothing. */
    private static String same(State state, String method) {
        RoastKeeper keeper = state.make();
        return method + " " + switch (method) {
            case "setAmbient" -> keeper.count(4);
            case "setPower" -> keeper.count(5);
            case "setController" -> state.controller;
            case "setProbe" -> keeper.count(6) + " " + state.fouling;
            case "setCrack" -> state.crack;
            default -> state.fan;
        };
    }

    private static int number(String call, int word) {
        return Integer.parseInt(call.split(" ")[word]);
    }

    /** The answer, or ANY if it is worked out in other tests. */
    private static Integer due(Before b, String call) {
        String method = call.split(" ")[0];
        switch (method) {
            case "setAmbient": return b.at("count 4");
            case "setPower": return b.at("count 5");
            case "setController": return call.endsWith(b.state.controller) ? 0 : 1;
            case "setProbe": return b.at("count 6");
            case "setCrack": return call.endsWith(b.state.crack) ? 0 : 1;
            case "setFan": return b.state.fan;
            case "setPoint": return has(b, number(call, 1)) ? b.at("count 8") : room(b.at("count 8"), 8);
            case "removePoint": return has(b, number(call, 1)) ? b.at("target " + number(call, 1)) : Check.STATE;
            case "setRow": return dueOfRow(b, number(call, 1), number(call, 2));
            case "append": return room(b.at("count 12"), 100);
            case "clearText": return b.at("count 12");
            case "load": return dueOfLoad(b.state.text);
            case "charge": return b.is(EMPTY) ? b.at("count 2") : Check.STATE;
            case "drop": return b.is(ROASTING) ? b.at("batch 3") : Check.STATE;
            case "takeAway":
                return b.is(COOLING) && b.at("batch 0") <= b.at("count 4") + 150 ? b.at("batch 0") : Check.STATE;
            case "run": return b.at("count 0") + number(call, 1) > 10000 ? Integer.valueOf(Check.FULL) : ANY;
            case "undo": return b.at("count 11") == 0 ? Check.STATE : b.at("count 11") - 1;
            case "ticksTo": return dueOfForecast(b, b.at("batch 0"), number(call, 1));
            case "ticksToLoss": return dueOfForecast(b, b.at("batch 3"), number(call, 1));
            case "bestBias": return b.is(ROASTING) && b.at("count 8") > 0 ? ANY : Integer.valueOf(Check.STATE);
            default: return b.told.get(call);
        }
    }

    private static int room(int size, int limit) {
        return size < limit ? size + 1 : Check.FULL;
    }

    /** The points of all these states, as far as the calls name them, are those of FULL_PROFILE or of late(). */
    private static boolean has(Before b, int tick) {
        return tick == 0 && b.at("count 8") > 0 || tick == 399 && b.at("count 8") == 8;
    }

    private static int dueOfRow(Before b, int temperature, int rate) {
        int rows = b.at("count 9");
        boolean has = temperature == 1000 && rows >= 4 || temperature == 3000 && rows == 6;
        if (rate == -1) {
            return has ? rows - 1 : Check.STATE;
        }
        return has ? rows : room(rows, 6);
    }

    private static int dueOfLoad(String text) {
        switch (text) {
            case "": return 0;
            case "x": return -200000;
            case "400": return -200003;
            default: return 2;
        }
    }

    private static Integer dueOfForecast(Before b, int now, int wanted) {
        if (!b.is(ROASTING)) {
            return Check.STATE;
        }
        return now >= wanted ? Integer.valueOf(0) : ANY;
    }

    /** What a look tells after a call that was not refused, or ANY if that is worked out in other tests. */
    private static Integer after(Before b, String call, int answer, String look) {
        String method = call.split(" ")[0];
        boolean action = !List.of("append", "clearText", "undo", "count", "batch", "target", "rate", "logged", "drift",
            "ticksTo", "ticksToLoss", "bestBias").contains(method);
        if (action && look.equals("count 11")) {
            return Math.min(5, b.at("count 11") + 1);
        }
        switch (method + "; " + look) {
            case "setAmbient; count 4": case "setPower; count 5": case "setProbe; count 6": return number(call, 1);
            case "setPoint; count 8": case "load; count 8": case "setRow; count 9": case "append; count 12":
            case "undo; count 11":
                return answer;
            case "removePoint; count 8": return b.at(look) - 1;
            case "clearText; count 12": case "load; count 12": return 0;
            case "charge; count 1": return ROASTING;
            case "charge; count 7": return 0;
            case "drop; count 1": return COOLING;
            case "drop; count 6": return Math.min(60, b.at(look) + b.state.fouling);
            case "drop; count 10": return Math.min(8, b.at(look) + 1);
            case "takeAway; count 1": return EMPTY;
            case "undo; count 12": return b.at(look);
            default: break;
        }
        return afterInGroup(b, call, method + "; " + look.split(" ")[0], look);
    }

    private static Integer afterInGroup(Before b, String call, String group, String look) {
        switch (group) {
            case "setPoint; target":
                return look.equals("target " + number(call, 1)) ? Integer.valueOf(number(call, 2)) : ANY;
            case "setRow; rate":
                boolean set = number(call, 2) >= 0 && look.equals("rate " + number(call, 1));
                return set ? Integer.valueOf(number(call, 2)) : ANY;
            case "removePoint; target": case "load; target": case "drop; drift": return ANY;
            case "charge; batch": return batchWhenCharged(b, number(call, 1), number(look, 1));
            case "takeAway; batch": return Check.STATE;
            case "drop; logged": return loggedWhenDropped(b, number(look, 1), number(look, 2));
            case "run; count": case "run; batch": return afterRun(b, number(call, 1), look);
            default: return call.equals("undo") ? ANY : b.told.get(look);
        }
    }

    private static int batchWhenCharged(Before b, int mass, int what) {
        int ambient = b.at("count 4");
        return new int[] {ambient, mass, 0, 0, 0, 0, 0, Check.NONE, Check.NONE, ambient}[what];
    }

    private static int loggedWhenDropped(Before b, int index, int what) {
        if (index == 8) {
            return Check.NONE;
        }
        if (index > 0) {
            return b.at("logged " + (index - 1) + " " + what);
        }
        int former = b.at("logged 0 0");
        int number = former == Check.NONE ? 1 : former + 1;
        return new int[] {number, b.at("batch 2"), b.at("batch 7"), b.at("batch 8"), b.at("batch 3"), b.at("batch 9")}[what];
    }

    private static Integer afterRun(Before b, int ticks, String look) {
        boolean steered = b.is(ROASTING) && b.state.controller.startsWith("1") && b.at("count 8") > 0;
        switch (look) {
            case "count 0": return b.at(look) + ticks;
            case "count 2": case "count 3": return ANY;
            case "count 5": case "count 7": return steered ? ANY : b.told.get(look);
            case "batch 0": return b.is(EMPTY) ? Integer.valueOf(Check.STATE) : ANY;
            case "batch 2": return b.is(ROASTING) ? b.at(look) + ticks : b.at(look);
            default:
                boolean moves = b.is(ROASTING) && look.startsWith("batch") && !look.equals("batch 1");
                return moves ? ANY : b.told.get(look);
        }
    }

    // ---- what no look tells

    private static void hidden(State state, String call, boolean refused) {
        String method = call.split(" ")[0];
        if (method.equals("undo") && !refused) {
            return;
        }
        String where = state.name + ": " + call + ", then ";
        String[] then = Script.join(state.calls, call);
        String fan = method.equals("setFan") ? call : "setFan " + state.fan;
        CHECK.due(where + fan, Script.play(Script.after(then), fan), number(fan, 1));
        String controller = method.equals("setController") ? call : "setController " + state.controller;
        CHECK.due(where + controller, Script.play(Script.after(then), controller), 0);
        String crack = method.equals("setCrack") ? call : "setCrack " + state.crack;
        CHECK.due(where + crack, Script.play(Script.after(then), crack), 0);
        int fouling = method.equals("setProbe") ? number(call, 2) : state.fouling;
        foulingIs(where, then, fouling);
        if (!List.of("append", "clearText", "load").contains(method) || refused) {
            CHECK.due(where + "load", Script.play(Script.after(then), "load"), dueOfLoad(state.text));
        }
    }

    /** The fouling shows when a batch is dropped; beans that are too hot to be taken away are brought back by undo(). */
    private static void foulingIs(String where, String[] then, int fouling) {
        RoastKeeper keeper = Script.after(then);
        keeper.setFan(50);
        keeper.setAmbient(400);
        if (keeper.count(1) == COOLING) {
            keeper.run(60);
            keeper.takeAway();
        }
        if (keeper.count(1) == EMPTY) {
            keeper.charge(100);
        }
        int lag = keeper.count(6);
        if (keeper.count(1) == ROASTING) {
            keeper.drop();
            CHECK.due(where + "what fouling there is", keeper.count(6), Math.min(60, lag + fouling));
        }
    }
}
