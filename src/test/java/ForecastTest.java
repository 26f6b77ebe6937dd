/** Promises 25 to 27: the forecasts. */
public final class ForecastTest {
    private static final Check CHECK = new Check();

    public static void main(String[] args) {
        ticksTo();
        ticksToTheLastTick();
        ticksToLoss();
        beyondTheTime();
        bestBias();
        bestBiasKeepsTheController();
        bestBiasOverMoreTicks();
        CHECK.finish();
    }

    private static void due(String call, int got, int want) {
        CHECK.due(call, got, want);
    }

    private static RoastKeeper hot() {
        RoastKeeper k = new RoastKeeper();
        k.setPower(100);
        k.run(200);
        k.charge(100);
        return k;
    }

    private static void ticksTo() {
        RoastKeeper k = new RoastKeeper();
        due("ticksTo(-1)", k.ticksTo(-1), Check.INVALID);
        due("ticksTo(3001)", k.ticksTo(3001), Check.INVALID);
        due("ticksTo(0) when empty", k.ticksTo(0), Check.STATE);
        k = hot();
        due("ticksTo(-1)", k.ticksTo(-1), Check.INVALID);
        due("ticksTo(3001)", k.ticksTo(3001), Check.INVALID);
        due("ticksTo(0)", k.ticksTo(0), 0);
        due("ticksTo(250)", k.ticksTo(250), 0);
        due("ticksTo(251)", k.ticksTo(251), 1);
        // after 8 ticks the beans have 1539, after 26 they have 3018 (see BatchesTest)
        due("ticksTo(1539)", k.ticksTo(1539), 8);
        due("ticksTo(1540)", k.ticksTo(1540), 9);
        due("ticksTo(3000)", k.ticksTo(3000), 26);
        due("nothing has changed: time", k.count(0), 200);
        due("nothing has changed: beans", k.batch(0), 250);
        due("nothing has changed: drum", k.count(2), 4159);
        due("nothing has changed: history", k.count(11), 3);
        k.drop();
        due("ticksTo(0) when cooling", k.ticksTo(0), Check.STATE);
        k = new RoastKeeper();
        k.charge(100);
        due("never", k.ticksTo(251), Check.NONE);
    }

    private static void ticksToTheLastTick() {
        RoastKeeper k = rising();
        RoastKeeper ahead = rising();
        ahead.run(199);
        int at199 = ahead.batch(0);
        ahead.run(1);
        int at200 = ahead.batch(0);
        ahead.run(1);
        int at201 = ahead.batch(0);
        CHECK.due("it still rises then", at199 < at200 && at200 < at201 ? 1 : 0, 1);
        due("the 199th tick", k.ticksTo(at199), 199);
        due("the 200th tick", k.ticksTo(at200), 200);
        due("no 201st tick", k.ticksTo(at201), Check.NONE);
    }

    /** Beans that become hotter in each tick, behind a profile of one long rise. */
    private static RoastKeeper rising() {
        RoastKeeper k = new RoastKeeper();
        k.setPoint(0, 250);
        k.setPoint(400, 3000);
        k.setController(1, 50, 5, 50);
        k.charge(300);
        return k;
    }

    private static void ticksToLoss() {
        RoastKeeper k = new RoastKeeper();
        due("ticksToLoss(-1)", k.ticksToLoss(-1), Check.INVALID);
        due("ticksToLoss(100001)", k.ticksToLoss(100001), Check.INVALID);
        due("ticksToLoss(0) when empty", k.ticksToLoss(0), Check.STATE);
        k = hot();
        due("ticksToLoss(0)", k.ticksToLoss(0), 0);
        due("ticksToLoss(1)", k.ticksToLoss(1), 5);
        due("ticksToLoss(2)", k.ticksToLoss(2), 5);
        due("ticksToLoss(3)", k.ticksToLoss(3), 6);
        due("ticksToLoss(12)", k.ticksToLoss(12), 8);
        due("ticksToLoss(13)", k.ticksToLoss(13), 9);
        due("nothing has changed: loss", k.batch(3), 0);
        k = new RoastKeeper();
        k.setRow(0, 1);
        k.charge(100);
        k.run(10);
        due("ticksToLoss(10)", k.ticksToLoss(10), 0);
        due("ticksToLoss(11)", k.ticksToLoss(11), 1);
        due("the 200th tick", k.ticksToLoss(210), 200);
        due("no 201st tick", k.ticksToLoss(211), Check.NONE);
        k.setRow(0, 500);
        due("ticksToLoss(100000)", k.ticksToLoss(100000), 200);
        k.drop();
        due("ticksToLoss(0) when cooling", k.ticksToLoss(0), Check.STATE);
    }

    private static void beyondTheTime() {
        RoastKeeper k = new RoastKeeper();
        for (int n = 0; n < 50; n++) {
            k.run(200);
        }
        k.setRow(0, 1);
        k.setPoint(0, 3000);
        k.charge(100);
        due("no time is left", k.run(1), Check.FULL);
        due("the forecast goes beyond it", k.ticksToLoss(200), 200);
        // P alone asks for more than 100 already, so all biases are as good, and 0 is the smallest
        due("bestBias beyond it", k.bestBias(100), 0);
        due("time", k.count(0), 10000);
    }

    /** With P and I at 0 the power is the bias, and with a lag of 1 the probe is the beans. */
    private static RoastKeeper cold(int p, int i, int target) {
        RoastKeeper k = new RoastKeeper();
        k.setController(0, p, i, 99);
        k.setProbe(1, 0);
        k.setPoint(0, target);
        k.charge(100);
        return k;
    }

    private static void bestBias() {
        RoastKeeper k = new RoastKeeper();
        due("bestBias(0)", k.bestBias(0), Check.INVALID);
        due("bestBias(101)", k.bestBias(101), Check.INVALID);
        due("bestBias(1) when empty", k.bestBias(1), Check.STATE);
        k.charge(100);
        due("bestBias(1) without points", k.bestBias(1), Check.STATE);
        due("bestBias(101) without points", k.bestBias(101), Check.INVALID);
        k = new RoastKeeper();
        k.setPoint(0, 0);
        due("bestBias(1) with points, but empty", k.bestBias(1), Check.STATE);
        // the beans become 250 + 8 * bias / 10 / 20: 251 from 25 on, 252 from 50 on, 254 at 100
        due("at once", cold(0, 0, 250).bestBias(1), 0);
        due("one up", cold(0, 0, 251).bestBias(1), 25);
        due("two up", cold(0, 0, 252).bestBias(1), 50);
        due("all up", cold(0, 0, 3000).bestBias(1), 100);
        due("all down", cold(0, 0, 0).bestBias(1), 0);
        k = cold(0, 0, 252);
        k.drop();
        due("bestBias(1) when cooling", k.bestBias(1), Check.STATE);
    }

    private static void bestBiasKeepsTheController() {
        // P adds 100 * 2 / 100 to the bias; I adds 200 * 2 / 1000 = 0
        due("with P", cold(100, 0, 252).bestBias(1), 48);
        due("with a sum of 2", cold(0, 200, 252).bestBias(1), 50);
        RoastKeeper k = cold(0, 0, 2250);
        k.setController(1, 0, 0, 0);
        k.run(5);
        due("sum", k.count(7), 10000);
        k.setController(0, 0, 2, 99);
        k.setPoint(0, 252);
        // the sum becomes 10002: + 2 * 10002 / 1000 = 20
        due("with the sum", k.bestBias(1), 30);
        due("the sum stays", k.count(7), 10000);
        due("the power stays", k.count(5), 0);
        due("the controller stays", k.setController(0, 0, 2, 99), 0);
        k = cold(0, 0, 3000);
        k.setController(1, 0, 0, 0);
        k.run(1);
        k.setController(0, 0, 9, 99);
        k.setPoint(0, 251);
        // the sum becomes 2751: + 9 * 2751 / 1000 = 24, where 25 are wanted
        due("with a smaller sum", k.bestBias(1), 1);
    }

    private static void bestBiasOverMoreTicks() {
        // bias 91: the drum 322, the beans 253; the drum 322 + (728 - 14) / 10, the beans 260: 2 + 740
        // bias 90: the drum 322, the beans 253; the drum 322 + (720 - 14) / 10, the beans 259: 2 + 741
        // bias 100: the drum 330, the beans 254; the drum 330 + (800 - 16) / 10, the beans 261: 3 + 739
        RoastKeeper k = cold(0, 0, 251);
        k.setPoint(1, 251);
        k.setPoint(2, 1000);
        due("one tick", k.bestBias(1), 25);
        due("two ticks", k.bestBias(2), 91);
    }
}
