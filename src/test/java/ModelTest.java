import java.util.Arrays;

/** Lets RoastKeeper and the Model answer the same long runs of calls, and compares every answer. */
public final class ModelTest {
    private static final int RUNS = 1500;
    private static final int TEXTS = 20000;
    /** So many does the document promise; the last ones look at all. */
    private static final int CALLS = 512;
    private static final int LAST_LOOKS = 44;

    private final Check check = new Check();
    private RoastKeeper keeper;
    private Model model;
    private long seed;
    private String run;
    private int calls;
    private int limit;

    public static void main(String[] args) {
        ModelTest test = new ModelTest();
        for (int run = 1; run <= RUNS && test.check.allRight(); run++) {
            test.compareRun(run);
        }
        for (int text = 1; text <= TEXTS && test.check.allRight(); text++) {
            test.compareText(text);
        }
        test.check.finish();
    }

    private void begin(String name, int number) {
        keeper = new RoastKeeper();
        model = new Model();
        calls = 0;
        limit = CALLS - LAST_LOOKS;
        seed = number * 7919L;
        run = name + " " + number + ", ";
    }

    private void compareRun(int number) {
        begin("run", number);
        boolean hot = number % 3 != 0;
        if (hot) {
            call("setPower", 60 + pick(41));
            call("run", 200);
        }
        // Only runs with many whole batches fill the log and come to the end of the time.
        boolean busy = number % 4 == 0;
        while (calls < limit && check.allRight()) {
            if (busy && pick(3) == 0) {
                wholeBatch();
            } else {
                step();
            }
        }
        limit = CALLS;
        lookAtAll();
        check.due(run + "all its calls", calls, CALLS);
    }

    /** Texts of few kinds of characters, so that many of them are nearly a profile. */
    private void compareText(int number) {
        begin("text", number);
        String characters = number % 2 == 0 ? "0123456789 ;" : "0014   ;;x";
        int items = pick(10);
        for (int n = 0; n < items && pick(12) > 0; n++) {
            String item = pick(2) == 0 ? " " : "";
            type(item + (n * 50 + pick(60)) + " " + pick(3100) + (pick(2) == 0 ? " ;" : ";"));
        }
        for (int n = pick(8); n > 0; n--) {
            call("append", characters.charAt(pick(characters.length())));
        }
        call("load");
        for (int what : new int[] {8, 11, 12}) {
            call("count", what);
        }
        for (int tick = 0; tick <= 410; tick += 10) {
            call("target", tick);
        }
    }

    private void type(String text) {
        for (char character : text.toCharArray()) {
            call("append", character);
        }
    }

    private int pick(int below) {
        seed = seed * 6364136223846793005L + 1442695040888963407L;
        return (int) Math.floorMod(seed >> 33, (long) below);
    }

    /** Mostly a number of the range, at times an edge of it, a number beside it or one far away. */
    private int near(int from, int to) {
        switch (pick(24)) {
            case 0: case 1: return from;
            case 2: case 3: return to;
            case 4: return from - 1;
            case 5: return to + 1;
            case 6: return pick(2) == 0 ? Integer.MIN_VALUE + pick(2) : Integer.MAX_VALUE - pick(2);
            default: return from + pick(to - from + 1);
        }
    }

    private void step() {
        switch (pick(40)) {
            case 0: call("setAmbient", near(0, 400)); break;
            case 1: call("setPower", near(0, 100)); break;
            case 2: call("setController", pick(12) == 0 ? near(0, 1) : 1, near(0, 200), near(0, 200), near(0, 100)); break;
            case 3: call("setController", near(0, 1), pick(20), pick(20), 50 + pick(3)); break;
            case 4: call("setProbe", near(1, 60), near(0, 5)); break;
            case 5: call("setProbe", 1 + pick(6), pick(3)); break;
            case 6: call("setCrack", near(1500, 2300), near(1, 600)); break;
            case 7: call("setCrack", 1500 + pick(2), 20 + pick(2)); break;
            case 8: call("setFan", near(1, 50)); break;
            case 9: case 10: call("setPoint", near(0, 400), near(0, 3000)); break;
            case 11: call("setPoint", 10 * pick(12), 1500 + 100 * pick(10)); break;
            case 12: call("removePoint", pick(4) == 0 ? near(0, 400) : 10 * pick(12)); break;
            case 13: call("setRow", 250 * pick(10), near(-1, 999)); break;
            case 14: call("setRow", pick(2) == 0 ? near(0, 3000) : 250 * pick(10), pick(3) == 0 ? pick(30) : -1); break;
            case 15: type(); break;
            case 16: call("load"); break;
            case 17: call(pick(3) == 0 ? "clearText" : "load"); break;
            case 18: case 19: case 20: call("charge", near(100, 1000)); break;
            case 21: call("drop"); break;
            case 22: case 23: case 24: call("takeAway"); break;
            case 25: call("run", near(1, 200)); break;
            case 26: case 27: case 28: case 29: call("run", 1 + pick(30)); break;
            case 30: call("undo"); break;
            case 31: undoSome(); break;
            case 32: call("count", near(0, 12)); break;
            case 33: call("batch", near(0, 9)); break;
            case 34: call("target", near(0, 1000)); break;
            case 35: call("rate", near(0, 3000)); break;
            case 36: call("ticksTo", near(0, 3000)); break;
            case 37: call("ticksToLoss", pick(2) == 0 ? near(0, 100000) : pick(5000)); break;
            case 38: lookAtLog(); break;
            default: if (pick(8) == 0) call("bestBias", near(1, 100)); else lookAtBatch();
        }
    }

    private void wholeBatch() {
        call("charge", 100 + pick(901));
        call("run", near(1, 200));
        call("drop");
        call("run", near(1, 200));
        call("takeAway");
        lookAtLog();
    }

    private void type() {
        String[] texts = {"0 900; 60 1500;120 1900;180 2150;", "5 1;5 2;", " 10 2000 ; 20", "01 2;", "401 1;",
            "0 1;1 1;2 1;3 1;4 1;5 1;6 1;7 1;", "0 1;1 1;2 1;3 1;4 1;5 1;6 1;7 1;8 1;", "3 3001;", "4 12345678901;",
            "7 8 9;", ";", "9 ;", "  ", "2 00;", "0 0;", "400 3000;", "1 2;x", "1,2;", "4294967297 1;"};
        type(texts[pick(texts.length)]);
        if (pick(10) == 0) {
            call("append", near(1, 255));
        }
    }

    private void undoSome() {
        for (int k = pick(7); k > 0; k--) {
            call("undo");
        }
        lookAtBatch();
    }

    private void lookAtBatch() {
        for (int what : new int[] {0, 1, 2, 3, 4, 5, 6, 7, 8, 9}) {
            if (pick(4) == 0) call("batch", what);
        }
    }

    private void lookAtLog() {
        call("logged", near(0, 8), near(0, 5));
        call("drift", near(1, 5));
    }

    private void lookAtAll() {
        for (int what = -1; what <= 13; what++) call("count", what);
        for (int what = -1; what <= 10; what++) call("batch", what);
        for (int index = -1; index <= 8; index++) call("logged", index, pick(6));
        for (int what = 0; what <= 6; what++) call("drift", what);
    }

    private void call(String name, int... arguments) {
        if (calls >= limit) {
            return;
        }
        calls++;
        int got = answer(keeper, name, arguments);
        int want = answer(model, name, arguments);
        check.due(run + name + Arrays.toString(arguments), got, want);
    }

    /** By reflection, so that each method need not be listed twice. */
    private static int answer(Object object, String name, int[] arguments) {
        Class<?>[] types = new Class<?>[arguments.length];
        Arrays.fill(types, int.class);
        Object[] boxed = Arrays.stream(arguments).boxed().toArray();
        try {
            return (int) object.getClass().getDeclaredMethod(name, types).invoke(object, boxed);
        } catch (ReflectiveOperationException e) {
            throw new IllegalStateException(name, e);
        }
    }
}
