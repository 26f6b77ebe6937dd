/** Promises 19 to 24: looking at the roaster, the batch, the profile, the table and the log. */
public final class LookingTest {
    private static final Check CHECK = new Check();

    public static void main(String[] args) {
        count();
        batch();
        target();
        rate();
        logged();
        drift();
        driftOfCracks();
        CHECK.finish();
    }

    private static void due(String call, int got, int want) {
        CHECK.due(call, got, want);
    }

    private static void count() {
        RoastKeeper k = new RoastKeeper();
        due("count(-1)", k.count(-1), Check.INVALID);
        due("count(13)", k.count(13), Check.INVALID);
        k.setAmbient(260);
        k.setPower(90);
        k.setProbe(3, 2);
        k.setPoint(5, 1000);
        k.setRow(10, 1);
        k.setController(1, 1, 1, 40);
        Check.type(k, "abc");
        k.charge(500);
        // deviation 750: 40 + 750 / 100 + 750 / 1000 = 47
        // the drum: 250 + (376 + 2) / 10 - (-10 * 500 / 20000 = -1) = 288
        // the beans: 260 + 28 / 20 = 261; the probe: 250 + 11 / 3 = 253
        k.run(1);
        int[] numbers = {1, 1, 288, 253, 260, 47, 3, 750, 1, 5, 0, 5, 3};
        for (int what = 0; what < numbers.length; what++) {
            due("count(" + what + ")", k.count(what), numbers[what]);
        }
        k.drop();
        due("cooling", k.count(1), 2);
        due("lag fouled", k.count(6), 5);
        due("one in the log", k.count(10), 1);
    }

    private static void batch() {
        RoastKeeper k = new RoastKeeper();
        due("batch(0) when empty", k.batch(0), Check.STATE);
        due("batch(-1) when empty", k.batch(-1), Check.INVALID);
        due("batch(10) when empty", k.batch(10), Check.INVALID);
        k.charge(321);
        due("batch(10)", k.batch(10), Check.INVALID);
        due("batch(-1)", k.batch(-1), Check.INVALID);
        due("batch(1)", k.batch(1), 321);
        k.run(2);
        due("batch(2)", k.batch(2), 2);
        k.drop();
        due("batch(1) when cooling", k.batch(1), 321);
        k.takeAway();
        due("batch(1) when taken away", k.batch(1), Check.STATE);
    }

    private static void target() {
        RoastKeeper k = new RoastKeeper();
        due("target(-1)", k.target(-1), Check.INVALID);
        due("target(1001)", k.target(1001), Check.INVALID);
        due("target(0) of none", k.target(0), Check.NONE);
        due("target(1000) of none", k.target(1000), Check.NONE);
        k.setPoint(10, 100);
        due("before the only point", k.target(0), 100);
        due("after the only point", k.target(1000), 100);
        k.setPoint(17, 0);
        k.setPoint(20, 7);
        due("before the first", k.target(9), 100);
        due("at the first", k.target(10), 100);
        // falling lines are rounded down: 100 + (-100 * 1 / 7 = -15)
        due("on a falling line", k.target(11), 85);
        due("on a falling line", k.target(16), 14);
        due("at the second", k.target(17), 0);
        due("on a rising line: 7 / 3", k.target(18), 2);
        due("on a rising line: 14 / 3", k.target(19), 4);
        due("at the last", k.target(20), 7);
        due("after the last", k.target(21), 7);
        due("target(1000)", k.target(1000), 7);
        due("no action", k.count(11), 3);
    }

    private static void rate() {
        RoastKeeper k = new RoastKeeper();
        due("rate(-1)", k.rate(-1), Check.INVALID);
        due("rate(3001)", k.rate(3001), Check.INVALID);
        int[][] rates = {{0, 0}, {999, 0}, {1000, 2}, {1499, 2}, {1500, 6}, {1899, 6}, {1900, 14},
            {2099, 14}, {2100, 25}, {3000, 25}};
        for (int[] row : rates) {
            due("rate(" + row[0] + ")", k.rate(row[0]), row[1]);
        }
        k.setRow(3000, 999);
        k.setRow(0, 1);
        due("rate(2999)", k.rate(2999), 25);
        due("rate(3000)", k.rate(3000), 999);
        due("rate(0)", k.rate(0), 1);
    }

    private static void dropAfter(RoastKeeper k, int ticks) {
        k.charge(100);
        if (ticks > 0) {
            k.run(ticks);
        }
        k.drop();
        k.takeAway();
    }

    private static void logged() {
        RoastKeeper k = new RoastKeeper();
        due("logged(-1, 0)", k.logged(-1, 0), Check.INVALID);
        due("logged(0, -1)", k.logged(0, -1), Check.INVALID);
        due("logged(0, 6)", k.logged(0, 6), Check.INVALID);
        due("logged(9, 6)", k.logged(9, 6), Check.INVALID);
        due("logged(0, 0) of none", k.logged(0, 0), Check.NONE);
        k.setRow(0, 3);
        dropAfter(k, 4);
        int[] properties = {1, 4, Check.NONE, Check.NONE, 12, 250};
        for (int what = 0; what < properties.length; what++) {
            due("logged(0, " + what + ")", k.logged(0, what), properties[what]);
        }
        due("logged(1, 0)", k.logged(1, 0), Check.NONE);
        due("logged(2147483647, 5)", k.logged(Integer.MAX_VALUE, 5), Check.NONE);
        for (int n = 2; n <= 9; n++) {
            dropAfter(k, n);
        }
        due("eight are kept", k.count(10), 8);
        due("number of the latest", k.logged(0, 0), 9);
        due("age of the latest", k.logged(0, 1), 9);
        due("number of the oldest", k.logged(7, 0), 2);
        due("age of the oldest", k.logged(7, 1), 2);
        due("none before it", k.logged(8, 0), Check.NONE);
        k.charge(100);
        due("a roasting one is not there yet", k.logged(0, 0), 9);
    }

    private static void drift() {
        RoastKeeper k = new RoastKeeper();
        due("drift(0)", k.drift(0), Check.INVALID);
        due("drift(6)", k.drift(6), Check.INVALID);
        due("drift(1) of none", k.drift(1), Check.NONE);
        k.setRow(0, 3);
        dropAfter(k, 3);
        due("drift(1) of one", k.drift(1), Check.NONE);
        dropAfter(k, 5);
        due("drift(1) of two", k.drift(1), 200);
        due("drift(2) without cracks", k.drift(2), Check.NONE);
        due("drift(3) without cracks", k.drift(3), Check.NONE);
        due("drift(4)", k.drift(4), 600);
        due("drift(5)", k.drift(5), 0);
        dropAfter(k, 4);
        // 100 * (3 * 25 - 6 * 12) / (3 * 14 - 36)
        due("drift(1) of three", k.drift(1), 50);

        k = new RoastKeeper();
        dropAfter(k, 1);
        for (int n = 2; n <= 6; n++) {
            dropAfter(k, 0);
        }
        // 100 * (6 * 1 - 21 * 1) / (6 * 91 - 441) = -1500 / 105
        due("drift(1) rounded down", k.drift(1), -15);
        for (int n = 7; n <= 9; n++) {
            dropAfter(k, 0);
        }
        due("the first is not in the log any more", k.drift(1), 0);
    }

    private static void driftOfCracks() {
        RoastKeeper k = new RoastKeeper();
        k.setPower(100);
        k.run(200);
        k.setFan(50);
        k.setCrack(1500, 103);
        hotBatch(k, 100, 25);
        due("detected", k.logged(0, 2), 9);
        due("ended", k.logged(0, 3), 19);
        due("drift(2) of one", k.drift(2), Check.NONE);
        hotBatch(k, 100, 1);
        due("not detected", k.logged(0, 2), Check.NONE);
        due("drift(2) of one of two", k.drift(2), Check.NONE);
        hotBatch(k, 1000, 15);
        due("detected, but not ended", k.logged(0, 3), Check.NONE);
        due("drift(3) of one of three", k.drift(3), Check.NONE);
        // the numbers of the two are 1 and 3
        due("drift(2) of two of three", k.drift(2), 50 * (k.logged(0, 2) - 9));
        CHECK.due("a heavier batch cracks later", k.logged(0, 2) > 9 ? 1 : 0, 1);
        due("drift(5)", k.drift(5), 50 * (k.logged(0, 5) - k.logged(2, 5)));
    }

    private static void hotBatch(RoastKeeper k, int mass, int ticks) {
        k.charge(mass);
        k.run(ticks);
        k.drop();
        k.run(30);
        k.takeAway();
    }
}
