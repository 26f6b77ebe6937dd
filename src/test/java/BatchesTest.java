/** Promises 14 to 18: batches, ticks and undo. */
public final class BatchesTest {
    private static final Check CHECK = new Check();

    public static void main(String[] args) {
        charge();
        drop();
        takeAway();
        run();
        ticksOfRoasting();
        cracks();
        undo();
        undoBringsAllBack();
        undoBringsSettingsBack();
        CHECK.finish();
    }

    private static void due(String call, int got, int want) {
        CHECK.due(call, got, want);
    }

    private static void charge() {
        RoastKeeper k = new RoastKeeper();
        due("charge(99)", k.charge(99), Check.INVALID);
        due("charge(1001)", k.charge(1001), Check.INVALID);
        due("still empty", k.count(1), 0);
        due("history", k.count(11), 0);
        k.setPower(80);
        k.run(1);
        due("charge(1000) tells the drum", k.charge(1000), 314);
        due("roasting", k.count(1), 1);
        due("charge is an action", k.count(11), 3);
        due("charge(100) when roasting", k.charge(100), Check.STATE);
        due("charge(99) when roasting", k.charge(99), Check.INVALID);
        int[] numbers = {250, 1000, 0, 0, 0, 0, 0, Check.NONE, Check.NONE, 250};
        for (int what = 0; what < numbers.length; what++) {
            due("new batch(" + what + ")", k.batch(what), numbers[what]);
        }
        k.drop();
        due("charge(100) when cooling", k.charge(100), Check.STATE);
        k.takeAway();
        due("charge(100) when empty again", k.charge(100), 314);
        due("mass", k.batch(1), 100);
    }

    private static void drop() {
        RoastKeeper k = new RoastKeeper();
        due("drop when empty", k.drop(), Check.STATE);
        k.setRow(0, 7);
        k.charge(100);
        k.run(3);
        due("drop tells the loss", k.drop(), 21);
        due("cooling", k.count(1), 2);
        due("drop is an action", k.count(11), 4);
        due("drop when cooling", k.drop(), Check.STATE);
        due("in the log", k.count(10), 1);
        k.run(5);
        due("no age when cooling", k.batch(2), 3);
        due("no loss when cooling", k.batch(3), 21);
        k.takeAway();
        due("drop when empty again", k.drop(), Check.STATE);
        due("still one in the log", k.count(10), 1);
    }

    private static void takeAway() {
        RoastKeeper k = new RoastKeeper();
        due("takeAway when empty", k.takeAway(), Check.STATE);
        k.setAmbient(400);
        k.charge(100);
        due("takeAway when roasting", k.takeAway(), Check.STATE);
        k.drop();
        k.setAmbient(249);
        due("151 above the ambient", k.takeAway(), Check.STATE);
        k.setAmbient(250);
        due("history", k.count(11), 5);
        k.undo();
        k.setAmbient(250);
        due("150 above the ambient", k.takeAway(), 400);
        due("empty", k.count(1), 0);
        k.undo();
        due("takeAway is an action: cooling again", k.count(1), 2);
        due("the beans are back", k.batch(0), 400);
        due("the ambient stays", k.count(4), 250);
        k.setAmbient(200);
        k.run(3);
        // 400 - 20, 380 - 18, 362 - 16
        due("takeAway tells the temperature that they have now", k.takeAway(), 346);
    }

    private static void run() {
        RoastKeeper k = new RoastKeeper();
        due("run(0)", k.run(0), Check.INVALID);
        due("run(201)", k.run(201), Check.INVALID);
        due("run(-1)", k.run(-1), Check.INVALID);
        due("run(2147483647)", k.run(Integer.MAX_VALUE), Check.INVALID);
        due("history", k.count(11), 0);
        due("run(1)", k.run(1), 250);
        due("run is an action", k.count(11), 1);
        due("time", k.count(0), 1);
        for (int n = 0; n < 49; n++) {
            k.run(200);
        }
        due("time", k.count(0), 9801);
        due("over 10000", k.run(200), Check.FULL);
        due("run(201) over 10000", k.run(201), Check.INVALID);
        due("to 10000", k.run(199), 250);
        due("time", k.count(0), 10000);
        due("to 10001", k.run(1), Check.FULL);
    }

    /** The drum is at 4159 when it is charged; the first ticks are worked out from the document. */
    private static RoastKeeper hot(int threshold) {
        RoastKeeper k = new RoastKeeper();
        k.setPower(100);
        k.run(200);
        k.setCrack(1500, threshold);
        k.charge(100);
        return k;
    }

    private static void ticksOfRoasting() {
        RoastKeeper k = hot(30);
        // the drum: 4159 + (800 - 3909 / 5) / 10 - 3909 * 100 / 20000 = 4159 + 1 - 19
        // the beans: 250 + (4141 - 250) / 20; the probe: 4153 + (444 - 4153) / 4
        due("run(1)", k.run(1), 3225);
        due("drum", k.count(2), 4141);
        due("beans", k.batch(0), 444);
        due("age", k.batch(2), 1);
        due("time", k.count(0), 201);
        int[] beans = {628, 802, 966, 1121, 1268, 1407, 1539, 1664, 1782, 1894, 2000, 2100, 2195};
        int[] losses = {0, 0, 0, 2, 4, 6, 12, 18, 24, 30, 44, 69, 94};
        for (int n = 0; n < beans.length; n++) {
            k.run(1);
            due("beans at age " + (n + 2), k.batch(0), beans[n]);
            due("loss at age " + (n + 2), k.batch(3), losses[n]);
            due("hottest at age " + (n + 2), k.batch(9), beans[n]);
        }
        k.run(12);
        due("beans", k.batch(0), 3018);
        k.drop();
        // 3018 - 2768 * 10 / 100, and so on; the probe is drawn to the drum now
        due("run(1)", k.run(1), 3128);
        due("beans", k.batch(0), 2742);
        k.run(1);
        due("beans", k.batch(0), 2493);
        due("hottest", k.batch(9), 3018);
        due("age", k.batch(2), 26);

        // the beans are drawn to a colder drum, and are hottest before it
        k = Check.roasting(1000, 0, 0);
        k.undo();
        k.setAmbient(400);
        k.charge(1000);
        // the drum: 250 + 3 - (250 - 400) * 1000 / 20000 = 261; the beans: 400 + (-139 / 20 = -7)
        k.run(1);
        due("drum warmed by the beans", k.count(2), 261);
        due("beans cooled by the drum", k.batch(0), 393);
        due("hottest at charging", k.batch(9), 400);

        // the exchange takes the drum as it was before the tick: 250 and not 330
        k = Check.roasting(1000, 100, 1);
        due("drum not cooled yet", k.count(2), 330);
        due("beans follow the new drum", k.batch(0), 254);

        // the drum: 330 + (800 - 80 / 5) / 10 = 408, and 80 * mass / 20000 less
        int[][] drums = {{249, 408}, {250, 407}, {499, 407}, {500, 406}, {1000, 404}};
        for (int[] row : drums) {
            k = new RoastKeeper();
            k.setPower(100);
            k.run(1);
            k.charge(row[0]);
            k.run(1);
            due("drum with a mass of " + row[0], k.count(2), row[1]);
        }
    }

    private static void cracks() {
        RoastKeeper k = hot(103);
        k.run(7);
        due("no pops below the crack temperature", k.batch(4), 0);
        int[] pops = {20, 83, 142, 198, 251, 301, 5, 0, 0, 0, 0, 0, 0};
        int[] all = {20, 103, 245, 443, 694, 995, 1000, 1000, 1000, 1000, 1000, 1000, 1000};
        int[] windows = {20, 103, 245, 443, 694, 995, 980, 897, 755, 557, 306, 5, 0};
        for (int n = 0; n < pops.length; n++) {
            k.run(1);
            due("all pops at age " + (n + 8), k.batch(4), all[n]);
            due("pops at age " + (n + 8), k.batch(5), pops[n]);
            due("window at age " + (n + 8), k.batch(6), windows[n]);
            due("detected at age " + (n + 8), k.batch(7), n < 1 ? Check.NONE : 9);
            due("ended at age " + (n + 8), k.batch(8), n < 11 ? Check.NONE : 19);
        }
        k = hot(104);
        k.run(10);
        due("one pop too few at age 9", k.batch(7), 10);
        k.drop();
        k.run(3);
        due("pops as they were when dropped", k.batch(5), 142);
        due("window as it was when dropped", k.batch(6), 245);
        due("ended not when cooling", k.batch(8), Check.NONE);

        k = hot(103);
        k.run(9);
        due("detected", k.batch(7), 9);
        k.setCrack(1500, 600);
        k.run(1);
        due("ended at a greater threshold", k.batch(8), 10);
        k.setCrack(1500, 1);
        k.run(1);
        due("detected once only", k.batch(7), 9);
        due("ended once only", k.batch(8), 10);

        k = hot(1);
        k.setCrack(1539, 1);
        k.run(8);
        due("not below the crack temperature", k.batch(5), 1);
        due("one pop is enough", k.batch(7), 8);

        k.run(4);
        k.drop();
        k.setFan(50);
        k.run(20);
        k.takeAway();
        k.charge(100);
        due("a new batch has no pops", k.batch(4), 0);
        due("a new batch has no latest pops", k.batch(5), 0);
        due("a new batch has no window", k.batch(6), 0);
        due("a new batch has no crack", k.batch(7), Check.NONE);
        k.run(1);
        due("the window does not reach back into another batch", k.batch(6), 0);
    }

    private static void undo() {
        RoastKeeper k = new RoastKeeper();
        due("undo of none", k.undo(), Check.STATE);
        for (int power = 1; power <= 7; power++) {
            k.setPower(power);
            due("history", k.count(11), Math.min(power, 5));
        }
        for (int left = 4; left >= 0; left--) {
            due("undo", k.undo(), left);
            due("power", k.count(5), left + 2);
        }
        due("undo of no more", k.undo(), Check.STATE);
        due("power", k.count(5), 2);
        k.setPower(9);
        due("undo anew", k.undo(), 0);
        due("power", k.count(5), 2);
        k.setPower(200);
        k.count(0);
        due("errors and looks are not recorded", k.count(11), 0);
    }

    private static void undoBringsAllBack() {
        RoastKeeper k = hot(30);
        k.setPoint(0, 2000);
        k.run(12);
        int[] numbers = new int[23];
        look(k, numbers);
        k.setController(1, 7, 7, 7);
        k.run(9);
        k.setRow(2000, 5);
        k.setProbe(9, 3);
        k.drop();
        Check.type(k, "1 1;");
        for (int n = 0; n < 5; n++) {
            k.undo();
        }
        int[] restored = new int[23];
        look(k, restored);
        numbers[11] = 0;
        numbers[12] = 4;
        for (int n = 0; n < numbers.length; n++) {
            due("number " + n + " after undo", restored[n], numbers[n]);
        }
        due("the log is empty again", k.logged(0, 0), Check.NONE);
        due("the rate is back", k.rate(2000), 14);
        due("the controller is back", k.setController(0, 50, 5, 50), 0);
        k.drop();
        due("numbers start anew", k.logged(0, 0), 1);
        due("the fouling is back", k.count(6), 4);
    }

    private static void undoBringsSettingsBack() {
        RoastKeeper k = new RoastKeeper();
        k.setAmbient(260);
        k.setPower(6);
        k.setController(1, 1, 2, 3);
        k.setProbe(7, 2);
        k.undo();
        due("lag", k.setProbe(4, 0), 4);
        k.undo();
        k.undo();
        due("controller", k.setController(0, 50, 5, 50), 0);
        k.undo();
        k.undo();
        due("power", k.count(5), 0);
        k.undo();
        due("ambient", k.setAmbient(250), 250);
        k.setCrack(1500, 600);
        k.setFan(9);
        k.setPoint(1, 1);
        k.setRow(1, 1);
        k.undo();
        due("rate", k.rate(1), 0);
        k.undo();
        due("target", k.target(1), Check.NONE);
        k.undo();
        due("fan", k.setFan(10), 10);
        k.undo();
        k.undo();
        due("crack", k.setCrack(1960, 30), 0);

        k = hot(103);
        k.run(15);
        k.drop();
        k.setFan(50);
        k.run(30);
        k.takeAway();
        k.charge(900);
        k.run(4);
        k.drop();
        due("two in the log", k.logged(1, 0), 1);
        k.undo();
        due("one in the log", k.logged(1, 0), Check.NONE);
        due("its number", k.logged(0, 0), 1);
        due("its age", k.logged(0, 1), 15);
        k.undo();
        k.undo();
        k.undo();
        due("beans of the first batch", k.batch(1), 100);
        due("its crack", k.batch(7), 9);
        due("its crack has not ended", k.batch(8), Check.NONE);
    }

    private static void look(RoastKeeper k, int[] numbers) {
        for (int what = 0; what <= 12; what++) {
            numbers[what] = k.count(what);
        }
        for (int what = 0; what <= 9; what++) {
            numbers[13 + what] = k.batch(what);
        }
    }
}
