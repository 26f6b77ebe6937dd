import java.util.Set;
import java.util.TreeSet;

/**
 * The range of each argument of promises 2 to 27: the first value outside is refused on both sides, in
 * every state, and changes nothing; the last value inside is taken, and taken as it is.
 */
public final class RangesTest {
    private static final Check CHECK = new Check();

    /** Each call with one argument left open, and the range of that argument. */
    private record Range(String call, int least, int greatest) {
        String with(int argument) {
            return call.replace("%", Integer.toString(argument));
        }
    }

    private static final Range[] RANGES = {
        new Range("setAmbient %", 0, 400),
        new Range("setPower %", 0, 100),
        new Range("setController % 61 8 41", 0, 1),
        new Range("setController 1 % 8 41", 0, 200),
        new Range("setController 1 61 % 41", 0, 200),
        new Range("setController 1 61 8 %", 0, 100),
        new Range("setProbe % 4", 1, 60),
        new Range("setProbe 7 %", 0, 5),
        new Range("setCrack % 33", 1500, 2300),
        new Range("setCrack 1700 %", 1, 600),
        new Range("setFan %", 1, 50),
        new Range("setPoint % 1234", 0, 400),
        new Range("setPoint 33 %", 0, 3000),
        new Range("removePoint %", 0, 400),
        new Range("setRow % 44", 0, 3000),
        new Range("setRow % -1", 0, 3000),
        new Range("setRow 1000 %", -1, 999),
        new Range("append %", 1, 255),
        new Range("charge %", 100, 1000),
        new Range("run %", 1, 200),
        new Range("count %", 0, 12),
        new Range("batch %", 0, 9),
        new Range("target %", 0, 1000),
        new Range("rate %", 0, 3000),
        new Range("logged % 0", 0, Integer.MAX_VALUE),
        new Range("logged 0 %", 0, 5),
        new Range("drift %", 1, 5),
        new Range("ticksTo %", 0, 3000),
        new Range("ticksToLoss %", 0, 100000),
        new Range("bestBias %", 1, 100),
    };

    public static void main(String[] args) {
        outside();
        outsideTwice();
        inside();
        insideTakenAsTheyAre();
        insideOfTheProbe();
        insideOfTheController();
        insideOfTheCrack();
        insideOfTheFan();
        insideOfProfileAndTable();
        insideOfTextBatchAndRun();
        insideOfTheForecasts();
        CHECK.finish();
    }

    private static void due(String call, int got, int want) {
        CHECK.due(call, got, want);
    }

    private static void outside() {
        for (Range range : RANGES) {
            for (int argument : outsideOf(range)) {
                for (int s = 0; s < States.ALL.length; s++) {
                    Twins.refused(CHECK, States.NAMES[s], States.ALL[s], range.with(argument), Check.INVALID);
                }
            }
        }
    }

    /** The first ones on both sides, those far away, and those that are inside when cut to a byte or a short. */
    private static Set<Integer> outsideOf(Range range) {
        Set<Integer> outside = new TreeSet<>();
        for (long argument : new long[] {range.least - 1L, range.greatest + 1L, Integer.MIN_VALUE, Integer.MAX_VALUE,
            range.least - 256L, range.greatest + 256L, range.least - 65536L, range.greatest + 65536L, Check.NONE}) {
            boolean isInt = argument >= Integer.MIN_VALUE && argument <= Integer.MAX_VALUE;
            if (isInt && (argument < range.least || argument > range.greatest)) {
                outside.add((int) argument);
            }
        }
        return outside;
    }

    private static void outsideTwice() {
        String[] calls = {"setController 2 201 201 101", "setController -1 -1 -1 -1", "setController 0 201 0 -1",
            "setProbe 0 6", "setProbe 61 -1", "setCrack 1499 601", "setCrack 2301 0", "setPoint -1 3001",
            "setPoint 401 -1", "setRow -1 1000", "setRow 3001 -2", "logged -1 -1", "logged -1 6"};
        for (String call : calls) {
            for (int s = 0; s < States.ALL.length; s++) {
                Twins.refused(CHECK, States.NAMES[s], States.ALL[s], call, Check.INVALID);
            }
        }
    }

    /** Another error may apply in some state, but never INVALID_ARGUMENT. */
    private static void inside() {
        for (Range range : RANGES) {
            for (int argument : new int[] {range.least, range.greatest}) {
                for (int s = 0; s < States.ALL.length; s++) {
                    int answer = Script.play(Script.after(States.ALL[s]), range.with(argument));
                    due(States.NAMES[s] + ": is " + range.with(argument) + " refused",
                        answer == Check.INVALID ? 1 : 0, 0);
                }
            }
        }
    }

    private static void insideTakenAsTheyAre() {
        RoastKeeper k = new RoastKeeper();
        k.setAmbient(0);
        due("ambient 0", k.count(4), 0);
        due("previous ambient 0", k.setAmbient(400), 0);
        due("ambient 400", k.count(4), 400);
        due("previous ambient 400", k.setAmbient(1), 400);
        k.setPower(100);
        due("power 100", k.count(5), 100);
        due("previous power 100", k.setPower(0), 100);
        due("power 0", k.count(5), 0);
        due("previous power 0", k.setPower(1), 0);
        due("all numbers of the roaster but the first are not out of range", k.count(1), 0);
        due("count(12)", k.count(12), 0);
    }

    private static void insideOfTheProbe() {
        // the drum: 250 + 592 / 10 = 309; the probe: + 59 / lag, which is 1 from 59 down
        due("lag 60", Script.play(Script.after("setPower 74", "setProbe 60 0"), "run 1"), 250);
        due("lag 59", Script.play(Script.after("setPower 74", "setProbe 59 0"), "run 1"), 251);
        due("lag 1", Script.play(Script.after("setPower 74", "setProbe 1 0"), "run 1"), 309);
        due("lag 2", Script.play(Script.after("setPower 74", "setProbe 2 0"), "run 1"), 279);
        due("previous lag 60", Script.play(Script.after("setProbe 60 0"), "setProbe 1 0"), 60);
        due("previous lag 1", Script.play(Script.after("setProbe 1 0"), "setProbe 2 0"), 1);
        due("fouling 5", Script.play(Script.after("setProbe 4 5", "charge 100", "drop"), "count 6"), 9);
        due("fouling 0", Script.play(Script.after("setProbe 4 0", "charge 100", "drop"), "count 6"), 4);
    }

    /** The power after the first tick of a batch, with the probe at 250 and one point at tick 0. */
    private static int power(int p, int i, int bias, int target) {
        RoastKeeper k = new RoastKeeper();
        k.setPoint(0, target);
        k.setController(1, p, i, bias);
        k.charge(100);
        k.run(1);
        return k.count(5);
    }

    private static void insideOfTheController() {
        // 49 * 200 / 100 and 49 * 199 / 100
        due("P 200", power(200, 0, 0, 299), 98);
        due("P 199", power(199, 0, 0, 299), 97);
        due("P 0", power(0, 0, 0, 1250), 0);
        due("P 1", power(1, 0, 0, 1250), 10);
        // 495 * 200 / 1000 and 495 * 199 / 1000
        due("I 200", power(0, 200, 0, 745), 99);
        due("I 199", power(0, 199, 0, 745), 98);
        due("I 0", power(0, 0, 0, 2250), 0);
        due("I 1", power(0, 1, 0, 2250), 2);
        due("bias 100", power(0, 0, 100, 0), 100);
        due("bias 99", power(0, 0, 99, 0), 99);
        due("bias 1", power(0, 0, 1, 0), 1);
        due("bias 0", power(0, 0, 0, 0), 0);
        String[] off = {"setPower 9", "setPoint 0 0", "setController 1 0 0 7", "setController 0 0 0 7", "charge 100"};
        due("off", Script.play(Script.after(Script.join(off, "run 1")), "count 5"), 9);
        due("on", Script.play(Script.after(Script.join(off, "setController 1 0 0 7", "run 1")), "count 5"), 7);
    }

    /** The drum at 4159 and a batch of 100: the beans are 1539 at age 8, 2285 at age 15 and 2370 at age 16. */
    private static RoastKeeper hot(String... settings) {
        return Script.after(Script.join(new String[] {"setPower 100", "run 200", "charge 100"}, settings));
    }

    private static void insideOfTheCrack() {
        RoastKeeper k = hot("setCrack 1500 1", "run 8");
        due("pops above 1500: 39 / 2 + 1", k.batch(5), 20);
        due("20 are 1 at least", k.batch(7), 8);
        k = hot("setCrack 2300 1", "run 15");
        due("no pops below 2300", k.batch(4), 0);
        k.run(1);
        due("pops above 2300: 70 / 2 + 1", k.batch(5), 36);
        due("36 are 1 at least", k.batch(7), 16);
        k = hot("setCrack 1500 600", "run 11");
        due("443 are not 600", k.batch(7), Check.NONE);
        k.run(1);
        due("694 are 600 at least", k.batch(7), 12);
        due("setCrack(1500, 600) is no change then", k.setCrack(1500, 600), 0);
        due("setCrack(2300, 600) is a change", k.setCrack(2300, 600), 1);
        due("setCrack(2300, 1) is a change", k.setCrack(2300, 1), 1);
        due("setCrack(2300, 1) is none then", k.setCrack(2300, 1), 0);
    }

    private static void insideOfTheFan() {
        // the beans: 400 - (400 - 200) * fan / 100
        String[] warm = {"setAmbient 400", "charge 100", "drop", "setAmbient 200"};
        due("fan 50", Script.play(Script.after(Script.join(warm, "setFan 50", "run 1")), "batch 0"), 300);
        due("fan 49", Script.play(Script.after(Script.join(warm, "setFan 49", "run 1")), "batch 0"), 302);
        due("fan 1", Script.play(Script.after(Script.join(warm, "setFan 1", "run 1")), "batch 0"), 398);
        due("fan 2", Script.play(Script.after(Script.join(warm, "setFan 2", "run 1")), "batch 0"), 396);
        due("previous fan 50", Script.play(Script.after("setFan 50"), "setFan 1"), 50);
        due("previous fan 1", Script.play(Script.after("setFan 1"), "setFan 50"), 1);
    }

    private static void insideOfProfileAndTable() {
        RoastKeeper k = Script.after("setPoint 0 3000", "setPoint 400 0");
        due("a point at 0 with 3000", k.target(0), 3000);
        due("after a point at 0: 3000 - 3000 / 400, rounded down", k.target(1), 2992);
        due("before a point at 400: 3000 - 1197000 / 400, rounded down", k.target(399), 7);
        due("a point at 400 with 0", k.target(400), 0);
        due("after a point at 400", k.target(401), 0);
        due("target(1000)", k.target(1000), 0);
        due("remove at 0", k.removePoint(0), 3000);
        due("target(0) then", k.target(0), 0);
        due("remove at 400", k.removePoint(400), 0);
        k = Script.after("setRow 0 999", "setRow 3000 0");
        due("a row at 0 with 999", k.rate(0), 999);
        due("it holds up to the next row", k.rate(999), 999);
        due("below a row at 3000", k.rate(2999), 25);
        due("a row at 3000 with 0", k.rate(3000), 0);
        due("remove at 3000", k.setRow(3000, -1), 5);
        due("rate(3000) then", k.rate(3000), 25);
        due("remove at 0", k.setRow(0, -1), 4);
        due("rate(0) then", k.rate(0), 0);
        due("a rate of 0 is no removal", k.setRow(1000, 0), 4);
    }

    private static void insideOfTextBatchAndRun() {
        RoastKeeper k = new RoastKeeper();
        due("append(1)", k.append(1), 1);
        due("it is no space", k.load(), -200000);
        k.clearText();
        due("append(255)", k.append(255), 1);
        due("it is no space", k.load(), -200000);
        due("charge(100)", k.charge(100), 250);
        due("mass 100", k.batch(1), 100);
        k.undo();
        due("charge(1000)", k.charge(1000), 250);
        due("mass 1000", k.batch(1), 1000);
        due("run(1)", k.run(1), 250);
        due("time 1, age 1", k.count(0) * 1000 + k.batch(2), 1001);
        due("run(200)", k.run(200), 250);
        due("time 201, age 201", k.count(0) * 1000 + k.batch(2), 201201);
    }

    private static void insideOfTheForecasts() {
        RoastKeeper k = hot("run 24");
        due("ticksTo(0)", k.ticksTo(0), 0);
        // the beans are 3018 at age 26, and below 3000 at age 25
        due("ticksTo(3000)", k.ticksTo(3000), 2);
        k = hot("setRow 0 999", "setRow 1000 999", "setRow 1500 999", "setRow 1900 999", "setRow 2100 999");
        due("ticksToLoss(0)", k.ticksToLoss(0), 0);
        // 999 * 100 = 99900 are not 100000 yet
        due("ticksToLoss(100000)", k.ticksToLoss(100000), 101);
        due("ticksToLoss(99900)", k.ticksToLoss(99900), 100);
    }
}
