import java.util.ArrayList;
import java.util.HashMap;
import java.util.List;
import java.util.Map;

/**
 * Every call in every kind of state: its answer, and each look after it. What a call changes is told in
 * due() and after(), or by the Model where there is much to work out; all else has to stay as it was, and so
 * has what no look shows (hidden()).
 */
public final class EachStateTest {
    private static final Check CHECK = new Check();
    private static final Integer ANY = null;
    private static final List<String> LOOKS = looks();

    /** A state, with all of it that no look tells. */
    private record State(String name, String[] calls, Hidden hidden) {
        RoastKeeper make() {
            return Script.after(calls);
        }

        Model model() {
            Model model = new Model();
            for (String call : calls) {
                Script.play(model, call);
            }
            return model;
        }
    }

    private record Hidden(int fan, int fouling, String controller, String crack, String points, String text) {
        boolean hasPoint(int tick) {
            return List.of(points.split(" ")).contains(Integer.toString(tick));
        }
    }

    /** What all looks told before a call. */
    private record Before(State state, Map<String, Integer> told) {
        int at(String look) {
            return told.get(look);
        }

        boolean is(int phase) {
            return at("count 1") == phase;
        }
    }

    private static final int EMPTY = 0;
    private static final int ROASTING = 1;
    private static final int COOLING = 2;

    private static final String[] CALLS = {"setAmbient 123", "setAmbient same", "setPower 45", "setPower same",
        "setController 1 33 44 55", "setController 0 6 2 41", "setController same", "setProbe 33 2", "setProbe same",
        "setCrack 1777 77", "setCrack same", "setFan 33", "setFan same", "setPoint 0 1234", "setPoint 399 2345",
        "setPoint 400 1", "removePoint 0", "removePoint 399", "removePoint 400", "setRow 7 8", "setRow 1000 3",
        "setRow 7 -1", "setRow 1000 -1", "setRow 3000 -1", "append 32", "append 120", "clearText", "load",
        "charge 345", "drop", "takeAway", "run 1", "run 37", "undo", "count 0", "batch 9", "target 3", "rate 1000",
        "logged 7 0", "drift 4", "ticksTo 0", "ticksTo 700", "ticksTo 1700", "ticksTo 3000", "ticksToLoss 0",
        "ticksToLoss 600", "ticksToLoss 100000", "bestBias 1", "bestBias 7", "bestBias 60"};

    public static void main(String[] args) {
        List<State> states = states();
        for (State state : states) {
            for (String call : CALLS) {
                compare(state, call);
            }
        }
        eachKindOfStateIsThere(states);
        CHECK.finish();
    }

    private static List<String> looks() {
        List<String> looks = new ArrayList<>();
        for (int what = 0; what <= 9; what++) {
            looks.add("batch " + what);
        }
        for (int what = 0; what <= 12; what++) {
            looks.add("count " + what);
        }
        for (int index = 0; index <= 8; index++) {
            for (int what = 0; what <= 5; what++) {
                looks.add("logged " + index + " " + what);
            }
        }
        for (int what = 1; what <= 5; what++) {
            looks.add("drift " + what);
        }
        for (int tick : new int[] {0, 1, 200, 399, 400, 1000}) {
            looks.add("target " + tick);
        }
        for (int temperature : new int[] {0, 7, 999, 1000, 1500, 1900, 2100, 3000}) {
            looks.add("rate " + temperature);
        }
        return looks;
    }

    private static Map<String, Integer> look(RoastKeeper keeper) {
        Map<String, Integer> told = new HashMap<>();
        for (String look : LOOKS) {
            told.put(look, Script.play(keeper, look));
        }
        return told;
    }

    // ---- the states

    private static final String[] SETTINGS = {"setFan 21", "setController 1 6 2 41", "setCrack 1500 20"};
    private static final String[] HOT = {"setPower 100", "run 200"};
    private static final String[] FULL_PROFILE = {"setPoint 0 900", "setPoint 20 1100", "setPoint 40 1300",
        "setPoint 60 1500", "setPoint 80 1600", "setPoint 200 2000", "setPoint 300 2200", "setPoint 399 2300"};
    private static final String[] NO_ROWS = {"setRow 1000 -1", "setRow 1500 -1", "setRow 1900 -1", "setRow 2100 -1"};

    private static List<State> states() {
        List<State> states = new ArrayList<>();
        phases(states, "new", States.NEW, new Hidden(10, 0, "0 50 5 50", "1960 30", "", ""));
        String[] hot = Script.join(Script.join(HOT, SETTINGS), "setPoint 0 3000", "setProbe 60 1");
        phases(states, "hot", hot, new Hidden(21, 1, "1 6 2 41", "1500 20", "0", ""));
        String text = "5 6; 7 8;" + " ".repeat(91);
        String points = "0 20 40 60 80 200 300 399";
        phases(states, "full", full(), new Hidden(21, 5, "1 6 2 41", "1500 20", points, text));
        String[] off = Script.join(full(), "setController 0 6 2 41", "setProbe 4 3", "setPower 30", "run 200");
        phases(states, "full, but off", off, new Hidden(21, 3, "0 6 2 41", "1500 20", points, text));
        String[] bare = Script.join(NO_ROWS, "setRow 0 3", "setProbe 1 3", "setController 1 6 2 41", "setAmbient 0", "type 400");
        phases(states, "bare", bare, new Hidden(10, 3, "1 6 2 41", "1960 30", "", "400"));
        String[] lossless = Script.join(NO_ROWS, "setPower 30", "setProbe 1 2", "setPoint 0 500", "setPoint 399 800",
            "type 1 2;3 4;");
        phases(states, "lossless", lossless, new Hidden(10, 2, "0 50 5 50", "1960 30", "0 399", "1 2;3 4;"));
        popping(states);
        late(states);
        return states;
    }

    private static String[] full() {
        String[] full = {};
        for (int n = 1; n <= 9; n++) {
            full = Script.join(full, "charge " + 100 * n, "run " + (10 - n), "drop", "takeAway");
        }
        full = Script.join(Script.join(Script.join(full, HOT), SETTINGS), FULL_PROFILE);
        return Script.join(full, "setRow 0 1", "setRow 3000 99", "setProbe 58 5", "setAmbient 300", "type 5 6; 7 8;",
            "91x append 32");
    }

    /** An empty roaster, a fresh batch, older ones, a hot one that cools and a cold one, and histories cut short. */
    private static void phases(List<State> states, String name, String[] calls, Hidden hidden) {
        String[] empty = {};
        String[] roasting = {"charge 200", "run 40"};
        String[] cooled = {"charge 200", "run 40", "drop", "run 200"};
        String[] emptied = {"setRow 0 999", "charge 1000", "run 150", "drop", "run 200", "takeAway"};
        String[][] ends = {empty, {"charge 200"}, {"charge 200", "run 9"}, roasting,
            {"charge 200", "run 60", "run 100"}, {"charge 200", "run 40", "drop"}, cooled, emptied};
        for (String[] end : ends) {
            states.add(new State(name + ", " + String.join(", ", end), Script.join(calls, end), hidden));
        }
        for (String[] end : new String[][] {empty, roasting, cooled}) {
            for (String undos : new String[] {"4x undo", "5x undo"}) {
                String[] all = Script.join(Script.join(calls, end), "5x setPower 0", undos);
                states.add(new State(name + ", " + String.join(", ", end) + ", " + undos, all, hidden));
            }
        }
    }

    /** Batches with pops in each of the latest six ticks, and with nothing left of room, time or history. */
    private static void popping(List<State> states) {
        Hidden hidden = new Hidden(21, 0, "0 6 2 41", "1500 20", "0", "");
        states.add(new State("popping", States.POPPING, hidden));
        states.add(new State("popping, dropped", Script.join(States.POPPING, "drop"), hidden));
        String[] full = Script.join(Script.join(HOT, FULL_PROFILE), "setRow 0 1", "setRow 3000 99", "100x append 32");
        full = Script.join(full, "48x run 200", "run 187", "setCrack 1500 20", "charge 100", "run 9", "setCrack 1500 600",
            "run 1", "setCrack 1500 20", "run 3", "5x setPower 0", "5x undo");
        states.add(new State("popping, all full", full, new Hidden(10, 0, "0 50 5 50", "1500 20",
            "0 20 40 60 80 200 300 399", " ".repeat(100))));
        String[] fading = {"setPower 100", "run 200", "setPower 0", "setCrack 1500 20", "charge 600", "run 20"};
        states.add(new State("popping, fading", fading, new Hidden(10, 0, "0 50 5 50", "1500 20", "", "")));
    }

    private static void late(List<State> states) {
        String[][] ends = {{"run 200"}, {"run 199"}, {"charge 300", "run 200"}, {"run 200", "charge 300"},
            {"charge 300", "run 100", "drop", "run 100"}};
        String[] late = Script.join(Script.join(HOT, SETTINGS), "setAmbient 261", "setProbe 5 2", "type x",
            "setPoint 0 2000", "48x run 200");
        for (String[] end : ends) {
            states.add(new State("late, " + String.join(", ", end), Script.join(late, end),
                new Hidden(21, 2, "1 6 2 41", "1500 20", "0", "x")));
        }
        states.add(new State("late and cold", new String[] {"50x run 200"},
            new Hidden(10, 0, "0 50 5 50", "1960 30", "", "")));
    }

    private static void eachKindOfStateIsThere(List<State> states) {
        String[] kinds = {"count 0=0", "count 0=10000", "count 1=0", "count 1=1", "count 1=2", "count 5=0",
            "count 5=100", "count 6=1", "count 6=60", "count 8=0", "count 8=8", "count 9=0", "count 9=6", "count 10=0",
            "count 10=8", "count 11=0", "count 11=1", "count 11=5", "count 12=0", "count 12=100",
            "batch 2=0", "batch 4=1000", "batch 4=995", "batch 6=995", "batch 7=8", "batch 8=10"};
        for (String kind : kinds) {
            String[] parts = kind.split("=");
            int found = 0;
            for (State state : states) {
                found += Script.play(state.make(), parts[0]) == Integer.parseInt(parts[1]) ? 1 : 0;
            }
            CHECK.due("is there a state with " + kind, found > 0 ? 1 : 0, 1);
        }
    }

    // ---- the comparison

    private static void compare(State state, String text) {
        String call = text.endsWith(" same") ? same(state, text.replace(" same", "")) : text;
        String where = state.name + ": " + call;
        Before before = new Before(state, look(state.make()));
        RoastKeeper keeper = state.make();
        Integer due = due(before, call);
        int got = Script.play(keeper, call);
        Model model = state.model();
        int byModel = Script.play(model, call);
        CHECK.due(where, got, due != ANY ? due : byModel);
        boolean refused = due != ANY && (due >= Check.FULL && due <= Check.INVALID || due <= -200000);
        Map<String, Integer> after = look(keeper);
        for (String look : LOOKS) {
            Integer want = refused ? before.told.get(look) : after(before, call, got, look);
            CHECK.due(where + ", then " + look, after.get(look), want != ANY ? want : Script.play(model, look));
        }
        hidden(state, call, refused);
        undone(before, call, refused);
    }

    /** An undo after an action brings all back; after any other call it does what it would have done before. */
    private static void undone(Before before, String call, boolean refused) {
        String method = call.split(" ")[0];
        if (method.equals("undo")) {
            return;
        }
        RoastKeeper keeper = before.state.make();
        boolean taken = isAction(method) && !refused;
        if (!taken) {
            keeper.undo();
        }
        Map<String, Integer> want = look(keeper);
        if (taken) {
            want.put("count 11", Math.min(5, before.at("count 11") + 1) - 1);
        }
        RoastKeeper other = before.state.make();
        Script.play(other, call);
        want.put("count 12", other.count(12));
        other.undo();
        Map<String, Integer> got = look(other);
        for (String look : LOOKS) {
            CHECK.due(before.state.name + ": " + call + ", then undo, then " + look, got.get(look), want.get(look));
        }
    }

    private static boolean isAction(String method) {
        return !List.of("append", "clearText", "undo", "count", "batch", "target", "rate", "logged", "drift", "ticksTo",
            "ticksToLoss", "bestBias").contains(method);
    }

    /** The setting that changes nothing. */
    private static String same(State state, String method) {
        RoastKeeper keeper = state.make();
        return method + " " + switch (method) {
            case "setAmbient" -> keeper.count(4);
            case "setPower" -> keeper.count(5);
            case "setController" -> state.hidden.controller;
            case "setProbe" -> keeper.count(6) + " " + state.hidden.fouling;
            case "setCrack" -> state.hidden.crack;
            default -> state.hidden.fan;
        };
    }

    private static int number(String call, int word) {
        return Integer.parseInt(call.split(" ")[word]);
    }

    /** The answer, or ANY if the Model is to tell it. */
    private static Integer due(Before b, String call) {
        String method = call.split(" ")[0];
        switch (method) {
            case "setAmbient": return b.at("count 4");
            case "setPower": return b.at("count 5");
            case "setController": return call.endsWith(b.state.hidden.controller) ? 0 : 1;
            case "setProbe": return b.at("count 6");
            case "setCrack": return call.endsWith(b.state.hidden.crack) ? 0 : 1;
            case "setFan": return b.state.hidden.fan;
            case "setPoint": return b.state.hidden.hasPoint(number(call, 1)) ? b.at("count 8") : room(b.at("count 8"), 8);
            case "removePoint":
                return b.state.hidden.hasPoint(number(call, 1)) ? b.at("target " + number(call, 1)) : Check.STATE;
            case "setRow": return dueOfRow(b, number(call, 1), number(call, 2));
            case "append": return room(b.at("count 12"), 100);
            case "clearText": return b.at("count 12");
            case "load": return dueOfLoad(b.state.hidden.text);
            case "charge": return b.is(EMPTY) ? b.at("count 2") : Check.STATE;
            case "drop": return b.is(ROASTING) ? b.at("batch 3") : Check.STATE;
            case "takeAway":
                return b.is(COOLING) && b.at("batch 0") <= b.at("count 4") + 150 ? b.at("batch 0") : Check.STATE;
            case "run": return b.at("count 0") + number(call, 1) > 10000 ? Integer.valueOf(Check.FULL) : ANY;
            case "undo": return b.at("count 11") == 0 ? Check.STATE : b.at("count 11") - 1;
            case "ticksTo": return dueOfForecast(b, b.at("batch 0"), number(call, 1));
            case "ticksToLoss": return dueOfForecast(b, b.at("batch 3"), number(call, 1));
            case "bestBias": return b.is(ROASTING) && b.at("count 8") > 0 ? ANY : Integer.valueOf(Check.STATE);
            default: return b.told.get(call);
        }
    }

    private static int room(int size, int limit) {
        return size < limit ? size + 1 : Check.FULL;
    }

    private static int dueOfRow(Before b, int temperature, int rate) {
        int rows = b.at("count 9");
        boolean has = temperature == 1000 && rows >= 4 || temperature == 3000 && rows == 6;
        if (rate == -1) {
            return has ? rows - 1 : Check.STATE;
        }
        return has ? rows : room(rows, 6);
    }

    private static int dueOfLoad(String text) {
        switch (text.trim()) {
            case "": return 0;
            case "x": return -200000;
            case "400": return -200003;
            default: return 2;
        }
    }

    private static Integer dueOfForecast(Before b, int now, int wanted) {
        if (!b.is(ROASTING)) {
            return Check.STATE;
        }
        return now >= wanted ? Integer.valueOf(0) : ANY;
    }

    /** What a look tells after a call that was not refused, or ANY if the Model is to tell that. */
    private static Integer after(Before b, String call, int answer, String look) {
        String method = call.split(" ")[0];
        if (isAction(method) && look.equals("count 11")) {
            return Math.min(5, b.at("count 11") + 1);
        }
        switch (method + "; " + look) {
            case "setAmbient; count 4": case "setPower; count 5": case "setProbe; count 6": return number(call, 1);
            case "setPoint; count 8": case "load; count 8": case "setRow; count 9": case "append; count 12":
            case "undo; count 11":
                return answer;
            case "removePoint; count 8": return b.at(look) - 1;
            case "clearText; count 12": case "load; count 12": return 0;
            case "charge; count 1": return ROASTING;
            case "charge; count 7": return 0;
            case "drop; count 1": return COOLING;
            case "drop; count 6": return Math.min(60, b.at(look) + b.state.hidden.fouling);
            case "drop; count 10": return Math.min(8, b.at(look) + 1);
            case "takeAway; count 1": return EMPTY;
            case "undo; count 12": return b.at(look);
            default: break;
        }
        return afterInGroup(b, call, method + "; " + look.split(" ")[0], look);
    }

    private static Integer afterInGroup(Before b, String call, String group, String look) {
        switch (group) {
            case "setPoint; target":
                return look.equals("target " + number(call, 1)) ? Integer.valueOf(number(call, 2)) : ANY;
            case "setRow; rate":
                boolean set = number(call, 2) >= 0 && look.equals("rate " + number(call, 1));
                return set ? Integer.valueOf(number(call, 2)) : ANY;
            case "removePoint; target": case "load; target": case "drop; drift": return ANY;
            case "charge; batch": return batchWhenCharged(b, number(call, 1), number(look, 1));
            case "takeAway; batch": return Check.STATE;
            case "drop; logged": return loggedWhenDropped(b, number(look, 1), number(look, 2));
            case "run; count": case "run; batch": return afterRun(b, number(call, 1), look);
            default: return call.equals("undo") ? ANY : b.told.get(look);
        }
    }

    private static int batchWhenCharged(Before b, int mass, int what) {
        int ambient = b.at("count 4");
        return new int[] {ambient, mass, 0, 0, 0, 0, 0, Check.NONE, Check.NONE, ambient}[what];
    }

    private static int loggedWhenDropped(Before b, int index, int what) {
        if (index == 8) {
            return Check.NONE;
        }
        if (index > 0) {
            return b.at("logged " + (index - 1) + " " + what);
        }
        int former = b.at("logged 0 0");
        int number = former == Check.NONE ? 1 : former + 1;
        return new int[] {number, b.at("batch 2"), b.at("batch 7"), b.at("batch 8"), b.at("batch 3"), b.at("batch 9")}[what];
    }

    private static Integer afterRun(Before b, int ticks, String look) {
        boolean steered = b.is(ROASTING) && b.state.hidden.controller.startsWith("1") && b.at("count 8") > 0;
        switch (look) {
            case "count 0": return b.at(look) + ticks;
            case "count 2": case "count 3": return ANY;
            case "count 5": case "count 7": return steered ? ANY : b.told.get(look);
            case "batch 0": return b.is(EMPTY) ? Integer.valueOf(Check.STATE) : ANY;
            case "batch 2": return b.is(ROASTING) ? b.at(look) + ticks : b.at(look);
            default:
                boolean moves = b.is(ROASTING) && look.startsWith("batch") && !look.equals("batch 1");
                return moves ? ANY : b.told.get(look);
        }
    }

    // ---- what no look tells

    private static void hidden(State state, String call, boolean refused) {
        String method = call.split(" ")[0];
        if (method.equals("undo") && !refused) {
            return;
        }
        String where = state.name + ": " + call + ", then ";
        String[] then = Script.join(state.calls, call);
        String fan = method.equals("setFan") ? call : "setFan " + state.hidden.fan;
        CHECK.due(where + fan, Script.play(Script.after(then), fan), number(fan, 1));
        String controller = method.equals("setController") ? call : "setController " + state.hidden.controller;
        CHECK.due(where + controller, Script.play(Script.after(then), controller), 0);
        String crack = method.equals("setCrack") ? call : "setCrack " + state.hidden.crack;
        CHECK.due(where + crack, Script.play(Script.after(then), crack), 0);
        int fouling = method.equals("setProbe") ? number(call, 2) : state.hidden.fouling;
        nextDrop(where, then, fouling);
        if (!List.of("append", "clearText", "load").contains(method) || refused) {
            CHECK.due(where + "load", Script.play(Script.after(then), "load"), dueOfLoad(state.hidden.text));
        }
    }

    /** The fouling shows when a batch is dropped, and so does the number of the batch. */
    private static void nextDrop(String where, String[] then, int fouling) {
        RoastKeeper keeper = Script.after(then);
        keeper.setFan(50);
        keeper.setAmbient(400);
        if (keeper.count(1) == COOLING) {
            keeper.run(60);
            keeper.takeAway();
        }
        if (keeper.count(1) == EMPTY) {
            keeper.charge(100);
        }
        int lag = keeper.count(6);
        int former = Math.max(0, keeper.logged(0, 0));
        if (keeper.count(1) == ROASTING) {
            keeper.drop();
            CHECK.due(where + "what fouling there is", keeper.count(6), Math.min(60, lag + fouling));
            CHECK.due(where + "the number of the next batch", keeper.logged(0, 0), former + 1);
        }
    }
}
