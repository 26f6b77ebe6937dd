/** The profile, the table, the log, the history and the text: empty, nearly full, full and over; and 512 calls. */
public final class LimitsTest {
    private static final Check CHECK = new Check();
    private static final int CALLS = 512;

    public static void main(String[] args) {
        profileOrder();
        profileFilled();
        profileTargets();
        tableOrder();
        tableFilled();
        tableEmpty();
        logFilled();
        logNumbers();
        logOfCracks();
        lagOfTheProbe();
        driftOfFew();
        driftOfTheEight();
        driftOfTheGreatest();
        historyFilled();
        historyOfActions();
        historyOfNoChange();
        historyOfNoActions();
        textFilled();
        manyCalls();
        manyBatches();
        manyUndos();
        twoObjects();
        CHECK.finish();
    }

    private static void due(String call, int got, int want) {
        CHECK.due(call, got, want);
    }

    /** In whatever order they are set, the points are ordered by their ticks. */
    private static void profileOrder() {
        int[][] orders = {{0, 1, 2}, {0, 2, 1}, {1, 0, 2}, {1, 2, 0}, {2, 0, 1}, {2, 1, 0}};
        for (int[] order : orders) {
            RoastKeeper k = new RoastKeeper();
            for (int n : order) {
                k.setPoint(100 + 100 * n, 1000 - 400 * n);
            }
            due("before the first", k.target(99), 1000);
            due("the first", k.target(100), 1000);
            due("between", k.target(150), 800);
            due("the second", k.target(200), 600);
            due("between", k.target(250), 400);
            due("the last", k.target(300), 200);
            due("after the last", k.target(301), 200);
        }
    }

    private static void profileFilled() {
        RoastKeeper k = new RoastKeeper();
        due("no points", k.count(8), 0);
        int[] ticks = {35, 5, 75, 15, 65, 25, 55, 45};
        for (int n = 0; n < 8; n++) {
            due("points then", k.setPoint(ticks[n], 10 * ticks[n]), n + 1);
            due("points", k.count(8), n + 1);
        }
        due("a ninth", k.setPoint(50, 1), Check.FULL);
        due("still 8", k.count(8), 8);
        due("not in the profile", k.target(50), 500);
        for (int n = 0; n < 8; n++) {
            due("in place of one with the same tick", k.setPoint(ticks[n], 20 * ticks[n]), 8);
            due("target of a point", k.target(ticks[n]), 20 * ticks[n]);
        }
        due("before the first", k.target(4), 100);
        due("after the last", k.target(76), 1500);
        due("a point removed", k.removePoint(45), 900);
        due("its neighbours are successive", k.target(40), 800);
        due("7 points", k.count(8), 7);
        due("an eighth again", k.setPoint(0, 0), 8);
        due("a ninth again", k.setPoint(1, 0), Check.FULL);
        int left = 8;
        for (int tick : new int[] {0, 5, 15, 25, 35, 55, 65, 75}) {
            due("removed", k.removePoint(tick), 20 * tick);
            left--;
            due("points left", k.count(8), left);
            due("target then", k.target(0), tick == 75 ? Check.NONE : k.target(1));
        }
    }

    private static void profileTargets() {
        RoastKeeper k = Script.after("setPoint 7 1000", "setPoint 8 1001");
        due("no tick between two points", k.target(7) * 10000 + k.target(8), 10001001);
        k = Script.after("setPoint 400 500");
        due("before and after a single point", k.target(0) + k.target(399) + k.target(401) + k.target(1000), 2000);
        // only the product is divided: 0 + 3000 * 1 / 7, and not 3000 / 7 * t
        k = Script.after("setPoint 0 0", "setPoint 7 3000");
        int[] rising = {0, 428, 857, 1285, 1714, 2142, 2571, 3000};
        for (int tick = 0; tick <= 7; tick++) {
            due("rising at " + tick, k.target(tick), rising[tick]);
        }
        // 3000 + (-3000 * 1 / 7), rounded toward negative infinity
        k = Script.after("setPoint 0 3000", "setPoint 7 0");
        int[] falling = {3000, 2571, 2142, 1714, 1285, 857, 428, 0};
        for (int tick = 0; tick <= 7; tick++) {
            due("falling at " + tick, k.target(tick), falling[tick]);
        }
        k = Script.after("setPoint 100 0", "setPoint 101 3000", "setPoint 102 3000", "setPoint 103 0");
        int[] steps = {0, 0, 3000, 3000, 0, 0};
        for (int n = 0; n < steps.length; n++) {
            due("steep at " + (99 + n), k.target(99 + n), steps[n]);
        }
    }

    private static void tableOrder() {
        int[][] orders = {{0, 1, 2}, {0, 2, 1}, {1, 0, 2}, {1, 2, 0}, {2, 0, 1}, {2, 1, 0}};
        for (int[] order : orders) {
            RoastKeeper k = Script.after("setRow 1000 -1", "setRow 1500 -1", "setRow 1900 -1");
            for (int n : order) {
                k.setRow(100 + 100 * n, 30 - 10 * n);
            }
            due("no row below", k.rate(99), 0);
            due("a row's own temperature", k.rate(100), 30);
            due("above it", k.rate(199), 30);
            due("the second row's own temperature", k.rate(200), 20);
            due("above it", k.rate(299), 20);
            due("the third row's own temperature", k.rate(300), 10);
            due("below the last", k.rate(2099), 10);
            due("the last row's own temperature", k.rate(2100), 25);
            due("above all", k.rate(3000), 25);
        }
    }

    private static void tableFilled() {
        RoastKeeper k = new RoastKeeper();
        due("at first four rows", k.count(9), 4);
        due("a fifth", k.setRow(500, 1), 5);
        due("a sixth", k.setRow(400, 3), 6);
        due("a seventh", k.setRow(450, 9), Check.FULL);
        due("still 6", k.count(9), 6);
        due("not in the table", k.rate(450), 3);
        due("in place of one with the same temperature", k.setRow(500, 999), 6);
        due("then", k.rate(500), 999);
        due("a row removed", k.setRow(400, -1), 5);
        due("no row below", k.rate(499), 0);
        due("a sixth again", k.setRow(450, 9), 6);
        due("a seventh again", k.setRow(400, 3), Check.FULL);
        due("then", k.rate(499), 9);
    }

    private static void tableEmpty() {
        RoastKeeper k = new RoastKeeper();
        int left = 4;
        for (int temperature : new int[] {1500, 1000, 2100, 1900}) {
            left--;
            due("rows then", k.setRow(temperature, -1), left);
            due("rows", k.count(9), left);
        }
        due("no rows: rate(0)", k.rate(0), 0);
        due("no rows: rate(3000)", k.rate(3000), 0);
        k = Script.after("setRow 1000 -1", "setRow 1500 -1", "setRow 1900 -1", "setRow 2100 -1", "setPower 100",
            "run 200", "charge 100", "run 30");
        due("no rows: no loss", k.drop(), 0);
        due("a first row", k.setRow(1500, 3), 1);
        due("then", k.rate(1499) * 10 + k.rate(1500), 3);
    }

    /** The nth batch is dropped at the age n, so that its age tells which one it is. */
    private static RoastKeeper afterBatches(int batches) {
        RoastKeeper k = Script.after("setRow 0 3");
        for (int n = 1; n <= batches; n++) {
            k.charge(100);
            k.run(n);
            k.drop();
            k.takeAway();
        }
        return k;
    }

    private static void logFilled() {
        for (int batches = 0; batches <= 17; batches++) {
            RoastKeeper k = afterBatches(batches);
            int kept = Math.min(batches, 8);
            String after = "after " + batches + " batches: ";
            due(after + "batches in the log", k.count(10), kept);
            for (int index = 0; index < kept; index++) {
                due(after + "number of " + index, k.logged(index, 0), batches - index);
                due(after + "age of " + index, k.logged(index, 1), batches - index);
                due(after + "loss of " + index, k.logged(index, 4), 3 * (batches - index));
                due(after + "greatest temperature of " + index, k.logged(index, 5), 250);
            }
            for (int what = 0; what <= 5; what++) {
                due(after + "not so many", k.logged(kept, what), Check.NONE);
                due(after + "not so many", k.logged(kept + 1, what), Check.NONE);
            }
        }
    }

    private static void logNumbers() {
        RoastKeeper k = new RoastKeeper();
        k.charge(100);
        due("a batch that roasts has no number", k.logged(0, 0), Check.NONE);
        k.drop();
        due("numbered from 1", k.logged(0, 0), 1);
        k.undo();
        due("not in the log after undo", k.count(10), 0);
        k.run(1);
        k.drop();
        due("the number is free again after undo", k.logged(0, 0), 1);
        due("its age", k.logged(0, 1), 1);
        k.takeAway();
        due("still in the log when taken away", k.count(10), 1);
        k = afterBatches(9);
        k.undo();
        k.undo();
        due("undo of the ninth drop: the first batch is back", k.logged(7, 0), 1);
        due("the eighth is the latest", k.logged(0, 0), 8);
        due("8 in the log", k.count(10), 8);
        for (int batches = 2; batches <= 12; batches++) {
            k = new RoastKeeper();
            for (int n = 1; n <= batches; n++) {
                k.charge(100);
                k.drop();
                k.takeAway();
            }
            k.undo();
            k.undo();
            undoneTo(k, batches, batches - 1);
            k.undo();
            k.undo();
            k.undo();
            undoneTo(k, batches, batches - 2);
            k.charge(100);
            k.drop();
            due("the number is free again", k.logged(0, 0), batches - 1);
        }
    }

    /** The drops of all batches but so many were taken back. */
    private static void undoneTo(RoastKeeper k, int batches, int left) {
        String after = "of " + batches + " batches, after undo of all but " + left + ": ";
        due(after + "in the log", k.count(10), Math.min(left, 8));
        for (int index = 0; index <= 8; index++) {
            int number = index < Math.min(left, 8) ? left - index : Check.NONE;
            due(after + "number of " + index, k.logged(index, 0), number);
        }
        due(after + "drift", k.drift(1), left < 2 ? Check.NONE : 0);
    }

    /** The drum is hot: the crack is detected at age 9 and ends at age 19 (see BatchesTest). */
    private static RoastKeeper hot() {
        return Script.after("setPower 100", "run 200", "setFan 50", "setCrack 1500 103");
    }

    private static void logOfCracks() {
        RoastKeeper k = hot();
        k.charge(100);
        k.run(8);
        k.drop();
        due("not detected yet", k.logged(0, 2), Check.NONE);
        due("so not ended", k.logged(0, 3), Check.NONE);
        k.undo();
        k.run(1);
        k.drop();
        due("detected at the present age", k.logged(0, 2), 9);
        due("not ended yet", k.logged(0, 3), Check.NONE);
        k.undo();
        k.run(9);
        k.drop();
        due("detected", k.logged(0, 2), 9);
        due("not ended yet", k.logged(0, 3), Check.NONE);
        k.undo();
        k.run(1);
        k.drop();
        due("detected", k.logged(0, 2), 9);
        due("ended at the present age", k.logged(0, 3), 19);
        due("greatest temperature as told by batch()", k.logged(0, 5), 2601);
        k.run(3);
        due("nothing more comes into the log when cooling", k.logged(0, 1) * 10000 + k.logged(0, 5), 192601);
    }

    private static int lagAfterDrop(int lag, int fouling) {
        return Script.play(Script.after("setProbe " + lag + " " + fouling, "charge 100", "drop"), "count 6");
    }

    private static void lagOfTheProbe() {
        due("1 + 0", lagAfterDrop(1, 0), 1);
        due("54 + 5", lagAfterDrop(54, 5), 59);
        due("55 + 5", lagAfterDrop(55, 5), 60);
        due("56 + 5", lagAfterDrop(56, 5), 60);
        due("59 + 1", lagAfterDrop(59, 1), 60);
        due("59 + 2", lagAfterDrop(59, 2), 60);
        due("60 + 0", lagAfterDrop(60, 0), 60);
        due("60 + 1", lagAfterDrop(60, 1), 60);
        due("60 + 5", lagAfterDrop(60, 5), 60);
        RoastKeeper k = Script.after("setProbe 58 1", "charge 100", "drop", "takeAway", "charge 100", "drop", "takeAway");
        due("58 + 1 + 1", k.count(6), 60);
        k.charge(100);
        k.drop();
        due("58 + 1 + 1 + 1", k.count(6), 60);
        k.undo();
        k.undo();
        k.undo();
        k.undo();
        due("undo takes the fouling back, too", k.count(6), 59);
        k = Script.after("setProbe 1 5");
        for (int n = 1; n <= 15; n++) {
            k.charge(100);
            k.drop();
            due("lag after " + n + " batches", k.count(6), Math.min(60, 1 + 5 * n));
            k.takeAway();
        }
    }

    private static void driftOfFew() {
        for (int what = 1; what <= 5; what++) {
            due("no batch", afterBatches(0).drift(what), Check.NONE);
            due("one batch", afterBatches(1).drift(what), Check.NONE);
        }
        due("ages 1 and 2", afterBatches(2).drift(1), 100);
        due("losses 3 and 6", afterBatches(2).drift(4), 300);
        due("temperatures 250 and 250", afterBatches(2).drift(5), 0);
        due("no cracks", afterBatches(8).drift(2), Check.NONE);
        due("no ends of cracks", afterBatches(8).drift(3), Check.NONE);

        RoastKeeper k = hot();
        crack(k, 19);
        due("one crack", k.drift(2), Check.NONE);
        due("one end of a crack", k.drift(3), Check.NONE);
        crack(k, 1);
        due("one crack of two batches", k.drift(2), Check.NONE);
        crack(k, 13);
        due("the third has a crack that has not ended", k.logged(0, 3), Check.NONE);
        due("two cracks", k.drift(2), 100 * (k.logged(0, 2) - k.logged(2, 2)) / 2);
        due("one end of a crack of three batches", k.drift(3), Check.NONE);
        crack(k, 40);
        due("two ends of cracks, of the numbers 1 and 4", k.drift(3),
            Math.floorDiv(100 * (k.logged(0, 3) - k.logged(3, 3)), 3));
        for (int n = 0; n < 5; n++) {
            crack(k, 1);
        }
        due("the first has left the log: two cracks", k.drift(2), 100 * (k.logged(5, 2) - k.logged(6, 2)));
        due("the first has left the log: one end", k.drift(3), Check.NONE);
        crack(k, 1);
        crack(k, 1);
        due("one crack is left", k.drift(2), Check.NONE);
    }

    private static void crack(RoastKeeper k, int ticks) {
        k.charge(100);
        k.run(ticks);
        k.drop();
        k.run(40);
        due("cold enough", k.takeAway() > 0 ? 1 : 0, 1);
    }

    private static void driftOfTheEight() {
        for (int batches = 2; batches <= 17; batches++) {
            due("ages that grow by 1", afterBatches(batches).drift(1), 100);
            due("losses that grow by 3", afterBatches(batches).drift(4), 300);
        }
        int[] ages = {9, 1, 4, 0, 7, 3, 3, 8, 2, 6};
        RoastKeeper k = new RoastKeeper();
        for (int age : ages) {
            k.charge(100);
            if (age > 0) {
                k.run(age);
            }
            k.drop();
            k.takeAway();
        }
        // the numbers 3 to 10 with 4 0 7 3 3 8 2 6: 100 * (8 * 228 - 52 * 33) / (8 * 380 - 52 * 52)
        due("the latest eight alone", k.drift(1), 32);
        k = new RoastKeeper();
        k.charge(100);
        k.run(1);
        k.drop();
        for (int n = 0; n < 3; n++) {
            k.takeAway();
            k.charge(100);
            k.drop();
        }
        // 1 0 0 0: 100 * (4 * 1 - 10 * 1) / (4 * 30 - 100)
        due("downward", k.drift(1), -30);
        k.takeAway();
        k.charge(100);
        k.run(1);
        k.drop();
        // 1 0 0 0 1
        due("up and down", k.drift(1), 0);
        k.takeAway();
        k.charge(100);
        k.drop();
        // 1 0 0 0 1 0: 100 * (6 * 6 - 21 * 2) / (6 * 91 - 441) = -600 / 105
        due("rounded toward negative infinity", k.drift(1), -6);
    }

    /** One batch that roasts as long as there is time, at the greatest rate, beside one that does not at all. */
    private static void driftOfTheGreatest() {
        RoastKeeper k = Script.after("setRow 0 999", "charge 100", "drop", "takeAway", "charge 100", "50x run 200");
        due("a loss is not bounded by the whole mass", k.batch(3), 9990000);
        due("ticksToLoss of the whole mass", k.ticksToLoss(100000), 0);
        due("drop", k.drop(), 9990000);
        due("logged", k.logged(0, 4), 9990000);
        due("drift of the losses 0 and 9990000", k.drift(4), 999000000);
        due("drift of the ages 0 and 10000", k.drift(1), 1000000);
        k = Script.after("setRow 0 999", "charge 100", "50x run 200", "drop", "takeAway", "charge 100", "drop");
        due("drift of the losses 9990000 and 0", k.drift(4), -999000000);
        due("drift of the ages 10000 and 0", k.drift(1), -1000000);
        k = Script.after("setRow 0 999");
        for (int n = 1; n < 8; n++) {
            k.charge(100);
            k.drop();
            k.takeAway();
        }
        k.charge(100);
        for (int n = 0; n < 50; n++) {
            k.run(200);
        }
        k.drop();
        // 100 * (8 * 8 - 36) * v / (8 * 204 - 36 * 36), where the dividend is far above what an int holds
        due("drift of seven times 0 and 9990000", k.drift(4), 83250000);
        due("drift of seven times 0 and 10000", k.drift(1), 83333);
    }

    private static void historyFilled() {
        RoastKeeper k = new RoastKeeper();
        due("empty", k.count(11), 0);
        due("undo of an empty history", k.undo(), Check.STATE);
        for (int n = 1; n <= 12; n++) {
            k.setPower(n);
            due("states after " + n + " actions", k.count(11), Math.min(n, 5));
        }
        for (int left = 4; left >= 0; left--) {
            due("states left", k.undo(), left);
            due("states left", k.count(11), left);
            due("the latest state first", k.count(5), 7 + left);
        }
        due("a sixth undo", k.undo(), Check.STATE);
        due("the oldest ones were dropped", k.count(5), 7);
        // five are not yet too many
        k = Script.after("setPower 1", "setPower 2", "setPower 3", "setPower 4", "setPower 5", "5x undo");
        due("all five are kept", k.count(5), 0);
        k = Script.after("setPower 1", "setPower 2", "setPower 3", "setPower 4", "setPower 5", "setPower 6", "5x undo");
        due("a sixth one drops the oldest one", k.count(5), 1);
        // undo and new actions, round the ring
        k = new RoastKeeper();
        for (int n = 1; n <= 40; n++) {
            k.setPower(n);
            k.setPower(99);
            due("one undo", k.undo(), Math.min(n, 5) - (n >= 5 ? 1 : 0));
            due("the power is back", k.count(5), n);
        }
    }

    /** Every action, each in a state in which it succeeds. */
    private static void historyOfActions() {
        String[][] actions = {{"setAmbient 250"}, {"setPower 0"}, {"setController 0 50 5 50"},
            {"setController 1 50 5 50"}, {"setProbe 4 0"}, {"setCrack 1960 30"}, {"setCrack 1961 30"}, {"setFan 10"},
            {"setPoint 7 7"}, {"setPoint 7 7", "setPoint 7 7"}, {"setPoint 7 7", "removePoint 7"},
            {"setRow 1000 2"}, {"setRow 7 7"}, {"setRow 1000 -1"}, {"load"}, {"charge 100"}, {"charge 100", "drop"},
            {"charge 100", "drop", "takeAway"}, {"run 1"}, {"run 200"}};
        for (String[] calls : actions) {
            String[] before = Script.join(new String[] {"setAmbient 399"}, calls);
            RoastKeeper k = Script.after(before);
            String what = calls[calls.length - 1] + " is an action";
            due(what, k.count(11), calls.length + 1);
            for (int left = calls.length; left >= 0; left--) {
                due(what, k.undo(), left);
            }
            due(what, k.count(4), 250);
        }
    }

    /** What changes nothing is successful, too. */
    private static void historyOfNoChange() {
        String[] calls = {"setAmbient 250", "setPower 0", "setController 0 50 5 50", "setProbe 4 0", "setCrack 1960 30",
            "setFan 10", "setRow 1000 2", "load", "setPoint 7 70", "setRow 7 7"};
        for (String call : calls) {
            RoastKeeper k = Script.after(call, call, call);
            due(call + " three times", k.count(11), 3);
            due("undo", k.undo(), 2);
            due("undo", k.undo(), 1);
            due("undo", k.undo(), 0);
            due("undo of no more", k.undo(), Check.STATE);
        }
    }

    private static void historyOfNoActions() {
        RoastKeeper k = Script.after("setPower 3", "charge 100", "setPoint 0 9");
        String[] calls = {"append 48", "type 0 0;", "clearText", "count 0", "batch 0", "target 0", "rate 0",
            "logged 0 0", "drift 1", "ticksTo 0", "ticksToLoss 0", "bestBias 1"};
        for (String call : calls) {
            Script.play(k, call);
            due(call + " is no action", k.count(11), 3);
        }
        k = Script.after("type abc", "setPower 3", "clearText", "type xy");
        k.undo();
        due("the text is no part of a state", k.count(12), 2);
        k = Script.after("type 1 1;", "load", "undo");
        due("undo does not bring the text back", k.count(12), 0);
        due("undo brings the profile back", k.count(8), 0);
    }

    private static void textFilled() {
        RoastKeeper k = new RoastKeeper();
        due("an empty text", k.clearText(), 0);
        due("an empty text has no items", k.load(), 0);
        due("to read it is an action", k.count(11), 1);
        for (int n = 1; n <= 100; n++) {
            due("length", k.append(n == 1 ? 'x' : ' '), n);
            due("length", k.count(12), n);
        }
        due("a 101st character", k.append(' '), Check.FULL);
        due("length", k.count(12), 100);
        due("previous length", k.clearText(), 100);
        due("length", k.count(12), 0);
        due("room again", k.append('1'), 1);
        due("previous length", k.clearText(), 1);
        k = Script.after("type 12345 1;", "clearText", "type 1 2;");
        due("nothing of the former text is left", k.load(), 1);
        k = Script.after("type 1 2;3 4;", "clearText", "type 1 2");
        due("the former text does not go on", k.load(), -200003);
        k = Script.after("type 1 2", "clearText", "type 1 2;", "load", "type 3");
        due("the former text does not go on", k.load(), -200001);
    }

    private static void manyCalls() {
        RoastKeeper k = new RoastKeeper();
        for (int n = 1; n < CALLS; n++) {
            due("setPower, call " + n, k.setPower(n % 101), n == 1 ? 0 : (n - 1) % 101);
        }
        due("the 512th call", k.count(5), 511 % 101);
        k = new RoastKeeper();
        for (int n = 1; n <= CALLS; n++) {
            due("append, call " + n, k.append(' '), n <= 100 ? n : Check.FULL);
        }
        k = new RoastKeeper();
        for (int n = 1; n <= CALLS; n++) {
            due("run, call " + n, k.run(200), n <= 50 ? 250 : Check.FULL);
        }
        k = Script.after("setPoint 0 900", "charge 100");
        for (int n = 3; n < CALLS; n++) {
            due("ticksTo, call " + n, k.ticksTo(251), Check.NONE);
        }
        // P alone asks for more than 100, so that all biases are as good
        due("the 512th call", k.bestBias(100), 0);
        k = new RoastKeeper();
        for (int n = 1; n <= CALLS; n++) {
            int tick = n % 17 * 25;
            int answer = n % 2 == 0 ? k.setPoint(tick, n) : k.removePoint(tick);
            due("points, call " + n, answer == Check.INVALID ? 1 : 0, 0);
        }
    }

    private static void manyBatches() {
        RoastKeeper k = new RoastKeeper();
        for (int n = 1; n <= 168; n++) {
            k.charge(100);
            k.drop();
            k.takeAway();
        }
        due("number of the latest, call 505", k.logged(0, 0), 168);
        due("number of the oldest", k.logged(7, 0), 161);
        due("none before it", k.logged(8, 0), Check.NONE);
        due("drift", k.drift(1), 0);
        due("in the log", k.count(10), 8);
        due("history", k.undo(), 4);
        due("cooling again, call 511", k.count(1), 2);
        due("the 512th call", k.batch(1), 100);
    }

    private static void manyUndos() {
        RoastKeeper k = new RoastKeeper();
        for (int n = 1; n <= 256; n++) {
            due("run", k.run(200), 250);
            due("undo", k.undo(), 0);
        }
        k = new RoastKeeper();
        for (int n = 1; n < CALLS; n++) {
            due("undo of none", k.undo(), Check.STATE);
        }
        due("the 512th call", k.count(0), 0);
    }

    /** What is done with one roaster is not seen in another. */
    private static void twoObjects() {
        RoastKeeper k = new RoastKeeper();
        RoastKeeper other = Script.after(States.COOLING);
        int[] first = {0, 0, 250, 250, 250, 0, 4, 0, 0, 4, 0, 0, 0};
        for (int what = 0; what <= 12; what++) {
            due("count(" + what + ") of a roaster beside another", k.count(what), first[what]);
        }
        k.setPower(7);
        k.append('x');
        k.undo();
        due("power of the other", other.count(5), 100);
        due("history of the other", other.count(11), 5);
        due("text of the other", other.load(), 1);
        due("log of this one", k.logged(0, 0), Check.NONE);
    }
}
