/** Promises 1 to 10: a new object and its settings. */
public final class SettingsTest {
    private static final Check CHECK = new Check();

    public static void main(String[] args) {
        constants();
        newObject();
        setAmbient();
        setPower();
        setController();
        controllerSteers();
        controllerRests();
        setProbe();
        setCrack();
        setFan();
        setPoint();
        removePoint();
        setRow();
        CHECK.finish();
    }

    private static void due(String call, int got, int want) {
        CHECK.due(call, got, want);
    }

    private static void constants() {
        due("INVALID_ARGUMENT", RoastKeeper.INVALID_ARGUMENT, -100001);
        due("ILLEGAL_STATE", RoastKeeper.ILLEGAL_STATE, -100002);
        due("CAPACITY_EXCEEDED", RoastKeeper.CAPACITY_EXCEEDED, -100003);
        due("NONE", RoastKeeper.NONE, -100009);
    }

    private static void newObject() {
        RoastKeeper k = new RoastKeeper();
        int[] counts = {0, 0, 250, 250, 250, 0, 4, 0, 0, 4, 0, 0, 0};
        for (int what = 0; what < counts.length; what++) {
            due("new count(" + what + ")", k.count(what), counts[what]);
        }
        due("new batch(0)", k.batch(0), Check.STATE);
        due("new target(0)", k.target(0), Check.NONE);
        due("new logged(0, 0)", k.logged(0, 0), Check.NONE);
        due("new setFan", k.setFan(10), 10);
        due("new setController", k.setController(0, 50, 5, 50), 0);
        due("new setCrack", k.setCrack(1960, 30), 0);
        due("new setRow(1000)", k.setRow(1000, 2), 4);
        k.charge(100);
        k.drop();
        due("new fouling is 0", k.count(6), 4);
    }

    private static void setAmbient() {
        RoastKeeper k = new RoastKeeper();
        due("setAmbient(-1)", k.setAmbient(-1), Check.INVALID);
        due("setAmbient(401)", k.setAmbient(401), Check.INVALID);
        due("ambient after errors", k.count(4), 250);
        due("history after errors", k.count(11), 0);
        due("setAmbient(0)", k.setAmbient(0), 250);
        due("setAmbient(400)", k.setAmbient(400), 0);
        due("ambient", k.count(4), 400);
        due("setAmbient is an action", k.count(11), 2);
        // the drum: + (8 * 0 - (250 - 400) / 5) / 10 = + 3
        k.run(1);
        due("drum drawn to the ambient", k.count(2), 253);
        k.charge(100);
        due("beans have the ambient", k.batch(0), 400);
        k.setAmbient(300);
        due("beans keep theirs", k.batch(0), 400);
        // the drum: + (8 * 1 - (250 - 256) / 5) / 10 = 10 / 10, as -6 / 5 is -2
        k = new RoastKeeper();
        k.setAmbient(256);
        k.setPower(1);
        k.run(1);
        due("drum, rounded down twice", k.count(2), 251);
    }

    private static void setPower() {
        RoastKeeper k = new RoastKeeper();
        due("setPower(-1)", k.setPower(-1), Check.INVALID);
        due("setPower(101)", k.setPower(101), Check.INVALID);
        due("power after errors", k.count(5), 0);
        due("setPower(100)", k.setPower(100), 0);
        due("setPower(0)", k.setPower(0), 100);
        due("setPower(80)", k.setPower(80), 0);
        due("power", k.count(5), 80);
        due("setPower is an action", k.count(11), 3);
        // the drum: + 640 / 10; the probe: + 64 / 4
        due("run(1)", k.run(1), 266);
        due("drum", k.count(2), 314);
        // the drum: + (640 - 64 / 5) / 10 = 62; the probe: + 110 / 4 = 27
        due("run(1)", k.run(1), 293);
        due("drum", k.count(2), 376);
        // the drum: (0 - 126 / 5) / 10 = -25 / 10 = -3, rounded down
        k.setPower(0);
        k.run(1);
        due("drum rounded down", k.count(2), 373);
    }

    private static void setController() {
        RoastKeeper k = new RoastKeeper();
        int[][] wrong = {{2, 50, 5, 50}, {-1, 50, 5, 50}, {1, -1, 5, 50}, {1, 201, 5, 50},
            {1, 50, -1, 50}, {1, 50, 201, 50}, {1, 50, 5, -1}, {1, 50, 5, 101}};
        for (int[] w : wrong) {
            due("setController with one out of range", k.setController(w[0], w[1], w[2], w[3]), Check.INVALID);
        }
        due("history after errors", k.count(11), 0);
        due("setController on", k.setController(1, 50, 5, 50), 1);
        due("setController the same", k.setController(1, 50, 5, 50), 0);
        due("one without a change is an action too", k.count(11), 2);
        due("setController p", k.setController(1, 200, 5, 50), 1);
        due("setController i", k.setController(1, 200, 200, 50), 1);
        due("setController bias", k.setController(1, 200, 200, 100), 1);
        due("setController off", k.setController(0, 200, 200, 100), 1);
        due("setController all 0", k.setController(0, 0, 0, 0), 1);
        due("setController all 0 again", k.setController(0, 0, 0, 0), 0);
    }

    private static void controllerSteers() {
        RoastKeeper k = new RoastKeeper();
        k.setPoint(0, 1000);
        k.setController(1, 4, 5, 50);
        k.charge(100);
        // deviation 750: 50 + 3000 / 100 + 3750 / 1000 = 83
        k.run(1);
        due("sum", k.count(7), 750);
        due("power above the bias", k.count(5), 83);
        due("drum: + 664 / 10", k.count(2), 316);
        due("beans: + 66 / 20", k.batch(0), 253);
        due("probe: + 3 / 4", k.count(3), 250);
        k.setController(1, 0, 0, 7);
        due("the sum stays", k.count(7), 750);

        k = new RoastKeeper();
        k.setPoint(0, 0);
        k.setController(1, 3, 5, 50);
        k.charge(100);
        // deviation -250: 50 + (-750 / 100 = -8) + (-1250 / 1000 = -2)
        k.run(1);
        due("sum below 0", k.count(7), -250);
        due("power below the bias", k.count(5), 40);
        k.setController(1, 200, 0, 0);
        k.run(1);
        due("power is at least 0", k.count(5), 0);
        k.run(200);
        due("sum is at least -20000", k.count(7), -20000);

        due("P: 99 * 100 / 100", powerFor(100, 0, 349), 99);
        due("P: 100 * 99 / 100", powerFor(99, 0, 350), 99);
        due("I: 540 * 185 / 1000", powerFor(0, 185, 790), 99);
        due("I: 500 * 198 / 1000", powerFor(0, 198, 750), 99);
        // each product is divided by itself: 90 / 100 + 900 / 1000 is 0 and not 1
        due("P and I", powerFor(1, 10, 340), 0);

        k = new RoastKeeper();
        k.setPoint(400, 3000);
        k.setController(1, 200, 200, 0);
        k.charge(1000);
        k.run(1);
        due("power is at most 100", k.count(5), 100);
        k.run(19);
        due("sum is at most 20000", k.count(7), 20000);
        k.drop();
        due("the sum stays when dropped", k.count(7), 20000);
        k.takeAway();
        k.run(20);
        k.takeAway();
        k.charge(100);
        due("a charge sets the sum to 0", k.count(7), 0);
    }

    /** The power after the first tick of a cold roaster, with a bias of 0. */
    private static int powerFor(int p, int i, int target) {
        RoastKeeper k = new RoastKeeper();
        k.setPoint(0, target);
        k.setController(1, p, i, 0);
        k.charge(100);
        k.run(1);
        return k.count(5);
    }

    private static void controllerRests() {
        RoastKeeper k = new RoastKeeper();
        k.setController(1, 200, 200, 100);
        k.setPower(3);
        k.charge(100);
        k.run(2);
        due("no profile: power", k.count(5), 3);
        due("no profile: sum", k.count(7), 0);
        k.setPoint(0, 3000);
        k.setController(0, 200, 200, 100);
        k.run(2);
        due("off: power", k.count(5), 3);
        due("off: sum", k.count(7), 0);
        k.setController(1, 200, 200, 100);
        k.drop();
        k.run(2);
        due("cooling: power", k.count(5), 3);
        k.takeAway();
        k.run(2);
        due("empty: power", k.count(5), 3);
        due("empty: sum", k.count(7), 0);
    }

    private static void setProbe() {
        RoastKeeper k = new RoastKeeper();
        due("setProbe(0, 0)", k.setProbe(0, 0), Check.INVALID);
        due("setProbe(61, 0)", k.setProbe(61, 0), Check.INVALID);
        due("setProbe(4, -1)", k.setProbe(4, -1), Check.INVALID);
        due("setProbe(4, 6)", k.setProbe(4, 6), Check.INVALID);
        due("history after errors", k.count(11), 0);
        due("setProbe(60, 5)", k.setProbe(60, 5), 4);
        due("setProbe(1, 0)", k.setProbe(1, 0), 60);
        due("lag", k.count(6), 1);
        due("setProbe is an action", k.count(11), 2);
        k.setPower(80);
        due("no lag: the drum", k.run(1), 314);
        k.setPower(0);
        k.setProbe(4, 5);
        // the drum: (0 - 64 / 5) / 10 = -2; the probe: 314 + (-2 / 4 = -1)
        due("probe rounded down", k.run(1), 313);
        k.charge(100);
        k.drop();
        due("fouled", k.count(6), 9);
        k.setProbe(57, 4);
        k.takeAway();
        k.charge(100);
        k.drop();
        due("not above 60", k.count(6), 60);
    }

    private static void setCrack() {
        RoastKeeper k = new RoastKeeper();
        due("setCrack(1499, 30)", k.setCrack(1499, 30), Check.INVALID);
        due("setCrack(2301, 30)", k.setCrack(2301, 30), Check.INVALID);
        due("setCrack(1960, 0)", k.setCrack(1960, 0), Check.INVALID);
        due("setCrack(1960, 601)", k.setCrack(1960, 601), Check.INVALID);
        due("history after errors", k.count(11), 0);
        due("setCrack(1960, 30)", k.setCrack(1960, 30), 0);
        due("setCrack(1500, 30)", k.setCrack(1500, 30), 1);
        due("setCrack(1500, 600)", k.setCrack(1500, 600), 1);
        due("setCrack(2300, 1)", k.setCrack(2300, 1), 1);
        due("setCrack(2300, 1)", k.setCrack(2300, 1), 0);
        due("setCrack is an action", k.count(11), 5);
    }

    private static void setFan() {
        RoastKeeper k = new RoastKeeper();
        due("setFan(0)", k.setFan(0), Check.INVALID);
        due("setFan(51)", k.setFan(51), Check.INVALID);
        due("history after errors", k.count(11), 0);
        due("setFan(50)", k.setFan(50), 10);
        due("setFan(1)", k.setFan(1), 50);
        due("setFan is an action", k.count(11), 2);
        k.setAmbient(350);
        k.charge(100);
        k.drop();
        k.setAmbient(249);
        // 101 * 1 / 100 = 1, then 100 * 1 / 100 = 1, then 99 * 1 / 100 = 0
        k.run(1);
        due("beans cool", k.batch(0), 349);
        k.run(1);
        due("beans cool", k.batch(0), 348);
        k.run(1);
        due("beans cool no more", k.batch(0), 348);
        k.setFan(50);
        k.run(1);
        due("beans cool: - 99 * 50 / 100", k.batch(0), 299);
        k.setAmbient(300);
        k.run(1);
        due("colder beans: - (-1 * 50 / 100 = -1)", k.batch(0), 300);
    }

    private static void setPoint() {
        RoastKeeper k = new RoastKeeper();
        due("setPoint(-1, 0)", k.setPoint(-1, 0), Check.INVALID);
        due("setPoint(401, 0)", k.setPoint(401, 0), Check.INVALID);
        due("setPoint(0, -1)", k.setPoint(0, -1), Check.INVALID);
        due("setPoint(0, 3001)", k.setPoint(0, 3001), Check.INVALID);
        due("history after errors", k.count(11), 0);
        due("setPoint(400, 3000)", k.setPoint(400, 3000), 1);
        due("setPoint(0, 0)", k.setPoint(0, 0), 2);
        due("setPoint(0, 400), in place", k.setPoint(0, 400), 2);
        due("target(0)", k.target(0), 400);
        due("setPoint is an action", k.count(11), 3);
        for (int n = 3; n <= 8; n++) {
            due("setPoint no. " + n, k.setPoint(100 - n, n), n);
        }
        due("a ninth point", k.setPoint(50, 1), Check.FULL);
        due("a ninth point out of range", k.setPoint(50, 3001), Check.INVALID);
        due("one of eight in place", k.setPoint(95, 55), 8);
        due("target(95)", k.target(95), 55);
        due("target(96)", k.target(96), 4);
        due("points", k.count(8), 8);
    }

    private static void removePoint() {
        RoastKeeper k = new RoastKeeper();
        due("removePoint(-1)", k.removePoint(-1), Check.INVALID);
        due("removePoint(401)", k.removePoint(401), Check.INVALID);
        due("removePoint(0) of none", k.removePoint(0), Check.STATE);
        k.setPoint(0, 10);
        k.setPoint(200, 20);
        k.setPoint(400, 30);
        due("removePoint(199)", k.removePoint(199), Check.STATE);
        due("removePoint(201)", k.removePoint(201), Check.STATE);
        due("history", k.count(11), 3);
        due("removePoint(200)", k.removePoint(200), 20);
        due("history", k.count(11), 4);
        due("target(100)", k.target(100), 15);
        due("removePoint(0)", k.removePoint(0), 10);
        due("target(0)", k.target(0), 30);
        due("removePoint(400)", k.removePoint(400), 30);
        due("points", k.count(8), 0);
        due("target(0) of none", k.target(0), Check.NONE);
    }

    private static void setRow() {
        RoastKeeper k = new RoastKeeper();
        due("setRow(-1, 0)", k.setRow(-1, 0), Check.INVALID);
        due("setRow(3001, 0)", k.setRow(3001, 0), Check.INVALID);
        due("setRow(0, -2)", k.setRow(0, -2), Check.INVALID);
        due("setRow(0, 1000)", k.setRow(0, 1000), Check.INVALID);
        due("setRow(1001, -1)", k.setRow(1001, -1), Check.STATE);
        due("history after errors", k.count(11), 0);
        due("setRow(0, 999)", k.setRow(0, 999), 5);
        due("setRow(3000, 0)", k.setRow(3000, 0), 6);
        due("setRow(1, 1), a seventh", k.setRow(1, 1), Check.FULL);
        due("setRow(1, -1) when full", k.setRow(1, -1), Check.STATE);
        due("setRow(1500, 7) in place", k.setRow(1500, 7), 6);
        due("rate(1500)", k.rate(1500), 7);
        due("setRow is an action", k.count(11), 3);
        due("setRow(1500, -1)", k.setRow(1500, -1), 5);
        due("rate(1500)", k.rate(1500), 2);
        due("rate(1900)", k.rate(1900), 14);
        due("rows", k.count(9), 5);
        due("setRow(0, -1)", k.setRow(0, -1), 4);
        due("rate(999)", k.rate(999), 0);
    }
}
