/** The steps of a tick at their edges, and the forecasts beside what then happens. */
public final class TickEdgesTest {
    private static final Check CHECK = new Check();

    public static void main(String[] args) {
        time();
        age();
        targetOfTheAge();
        sumClamped();
        sumClampedBeforeItIsUsed();
        sumOfANewBatch();
        powerClamped();
        productsRoundedByThemselves();
        controllerAtRest();
        drumRounded();
        drumAndBeans();
        beansRounded();
        beansCooling();
        probeRounded();
        popsAtTheCrackTemperature();
        popsAtMostAThousand();
        popsOfTheLatestTick();
        lossAtARow();
        windowOfAYoungBatch();
        windowOfSixTicks();
        thresholdToDetect();
        thresholdToEnd();
        hottestBeans();
        beansGrowingColder();
        beansGrowingColderThatPop();
        forecastsComeTrue();
        forecastsOfTheLastTick();
        forecastsBeyondTheTime();
        bestBiasComesTrue();
        bestBiasOfSeveral();
        CHECK.finish();
    }

    private static void due(String call, int got, int want) {
        CHECK.due(call, got, want);
    }

    private static int answer(String call, String... before) {
        return Script.play(Script.after(before), call);
    }

    /**
     * A drum at 4159, and a batch of 100. The beans from age 1: 444 628 802 966 1121 1268 1407 1539 1664 1782
     * 1894 2000 2100 2195 2285; with a crack at 1500 they pop from age 8: 20 83 142 198 251 301 5, and no more.
     */
    private static RoastKeeper hot(String... then) {
        return Script.after(Script.join(new String[] {"setPower 100", "run 200", "setCrack 1500 30", "charge 100"},
            then));
    }

    private static void time() {
        RoastKeeper k = new RoastKeeper();
        due("time 0", k.count(0), 0);
        k.run(1);
        k.charge(100);
        k.run(2);
        k.drop();
        k.run(3);
        due("time goes on in each state", k.count(0), 6);
        k.undo();
        due("undo takes it back", k.count(0), 3);
    }

    private static void age() {
        RoastKeeper k = Script.after("run 5", "charge 100");
        due("age 0 when charged", k.batch(2), 0);
        k.run(1);
        due("age 1", k.batch(2), 1);
        k.run(200);
        due("age 201", k.batch(2), 201);
        k.drop();
        k.run(7);
        due("no age when cooling", k.batch(2), 201);
        k.takeAway();
        k.charge(100);
        due("age 0 again", k.batch(2), 0);
    }

    /** The age has grown before the target is looked for. */
    private static void targetOfTheAge() {
        String[] profile = {"setPoint 1 1250", "setPoint 2 350", "setController 1 0 0 0", "charge 100"};
        due("before the first point: age 1 is its tick", answer("count 7", Script.join(profile, "run 1")), 1000);
        due("age 2", answer("count 7", Script.join(profile, "run 2")), 1100);
        due("after the last point", answer("count 7", Script.join(profile, "run 3")), 1200);
        String[] late = {"setPoint 3 1250", "setController 1 0 0 0", "charge 100"};
        due("before the first", answer("count 7", Script.join(late, "run 2")), 2000);
        // ages above 400 and above 1000 have the target of the last point, too
        String[] long400 = {"setPoint 0 249", "setPoint 400 251", "setController 1 0 0 0", "charge 100",
            "2x run 200"};
        int sum = answer("count 7", long400);
        due("age 401", answer("count 7", Script.join(long400, "run 1")), sum + 1);
        due("age 1200", answer("count 7", Script.join(long400, "4x run 200")), sum + 800);
    }

    /** With P, I and bias at 0 nothing moves: drum, beans and probe stay at 250. */
    private static RoastKeeper still() {
        return Script.after("setController 1 0 0 0", "setPoint 0 1250", "charge 100");
    }

    private static void steer(RoastKeeper k, int target, int sum) {
        k.setPoint(0, target);
        k.run(1);
        due("sum with the target " + target, k.count(7), sum);
        due("the probe is still", k.count(3), 250);
    }

    private static void sumClamped() {
        RoastKeeper k = still();
        k.run(19);
        due("19 * 1000", k.count(7), 19000);
        steer(k, 1249, 19999);
        steer(k, 251, 20000);
        steer(k, 250, 20000);
        steer(k, 251, 20000);
        steer(k, 3000, 20000);
        // what was cut off does not come back
        steer(k, 249, 19999);
        steer(k, 252, 20000);
        k = Script.after("setController 1 0 0 0", "setPoint 0 0", "charge 100", "run 79");
        due("79 * -250", k.count(7), -19750);
        steer(k, 1, -19999);
        steer(k, 249, -20000);
        steer(k, 250, -20000);
        steer(k, 249, -20000);
        steer(k, 0, -20000);
        steer(k, 251, -19999);
        steer(k, 248, -20000);
    }

    private static void sumClampedBeforeItIsUsed() {
        RoastKeeper k = still();
        k.run(20);
        due("at its bound", k.count(7), 20000);
        k.setController(1, 0, 1, 0);
        k.run(1);
        due("20000 / 1000, not 21000 / 1000", k.count(5), 20);
        k = Script.after("setController 1 0 0 0", "setPoint 0 0", "charge 100", "run 80", "setController 1 0 1 30",
            "run 1");
        due("30 - 20000 / 1000, not 30 - 20250 / 1000", k.count(5), 10);
    }

    private static void sumOfANewBatch() {
        RoastKeeper k = still();
        k.run(3);
        due("the sum", k.count(7), 3000);
        k.setController(0, 9, 9, 9);
        due("the sum stays when the controller is set", k.count(7), 3000);
        k.drop();
        due("the sum stays when dropped", k.count(7), 3000);
        k.takeAway();
        due("the sum stays when taken away", k.count(7), 3000);
        k.charge(100);
        due("the sum becomes 0 when charged", k.count(7), 0);
        k.undo();
        due("undo brings it back", k.count(7), 3000);
        k = still();
        k.run(1);
        k.drop();
        k.takeAway();
        k.charge(100);
        due("the sum becomes 0 at each time", k.count(7), 0);
    }

    /** The power after the first tick: the deviation is the target minus 250, and so is the sum. */
    private static int power(int p, int i, int bias, int target) {
        return answer("count 5", "setPoint 0 " + target, "setController 1 " + p + " " + i + " " + bias,
            "charge 100", "run 1");
    }

    private static void powerClamped() {
        due("100 - 1", power(100, 0, 100, 249), 99);
        due("100 + 0", power(100, 0, 100, 250), 100);
        due("100 + 1", power(100, 0, 100, 251), 100);
        due("99 + 1", power(100, 0, 99, 251), 100);
        due("99 + 2", power(100, 0, 99, 252), 100);
        due("far above", power(200, 200, 100, 3000), 100);
        due("0 + 1", power(100, 0, 0, 251), 1);
        due("0 + 0", power(100, 0, 0, 250), 0);
        due("0 - 1", power(100, 0, 0, 249), 0);
        due("1 - 1", power(100, 0, 1, 249), 0);
        due("1 - 2", power(100, 0, 1, 248), 0);
        due("2 - 1", power(100, 0, 2, 249), 1);
        due("far below", power(200, 200, 100, 0), 0);
    }

    private static void productsRoundedByThemselves() {
        due("99 / 100 and 990 / 1000", power(1, 10, 5, 349), 5);
        due("100 / 100 and 1000 / 1000", power(1, 10, 5, 350), 7);
        due("-1 / 100 and -10 / 1000", power(1, 10, 5, 249), 3);
        due("-100 / 100 and -1000 / 1000", power(1, 10, 5, 150), 3);
        due("-101 / 100 and -1010 / 1000", power(1, 10, 5, 149), 1);
        due("-1 / 100 alone", power(1, 0, 5, 249), 4);
        due("-1 / 1000 alone", power(0, 1, 5, 249), 4);
    }

    private static void controllerAtRest() {
        String[] set = {"setPower 3", "setController 1 200 200 100"};
        due("empty: the power stays", answer("count 5", Script.join(set, "setPoint 0 3000", "run 9")), 3);
        due("empty: the sum stays", answer("count 7", Script.join(set, "setPoint 0 3000", "run 9")), 0);
        due("no target: the power stays", answer("count 5", Script.join(set, "charge 100", "run 9")), 3);
        due("no target: the sum stays", answer("count 7", Script.join(set, "charge 100", "run 9")), 0);
        String[] removed = Script.join(set, "setPoint 0 3000", "charge 100", "run 1", "removePoint 0");
        due("no target any more: the power stays", answer("count 5", Script.join(removed, "setPower 4", "run 9")), 4);
        due("no target any more: the sum stays", answer("count 7", Script.join(removed, "run 9")), 2750);
        String[] cooling = Script.join(set, "setPoint 0 3000", "charge 100", "run 1", "drop", "setPower 5", "run 9");
        due("cooling: the power stays", answer("count 5", cooling), 5);
        due("cooling: the sum stays", answer("count 7", cooling), 2750);
        String[] off = Script.join(set, "setPoint 0 3000", "charge 100", "run 1", "setController 0 200 200 100",
            "setPower 6", "run 9");
        due("off: the power stays", answer("count 5", off), 6);
        due("off: the sum stays", answer("count 7", off), 2750);
        due("on again: the sum goes on", answer("count 7", Script.join(removed, "setPoint 0 0", "run 1")) < 2750
            ? 1 : 0, 1);
        due("on by itself: the power is set anew", answer("count 5", "setPoint 0 250", "setController 1 0 0 7",
            "setPower 90", "charge 100", "run 1"), 7);
    }

    private static void drumRounded() {
        // 250 + (8 * power - (250 - ambient) / 5) / 10
        int[][] rows = {{250, 0, 250}, {250, 1, 250}, {250, 2, 251}, {250, 100, 330}, {249, 0, 250}, {245, 0, 249},
            {246, 0, 250}, {201, 0, 249}, {200, 0, 249}, {196, 0, 249}, {195, 0, 248}, {251, 0, 250}, {299, 0, 251},
            {295, 0, 250}, {296, 0, 251}, {400, 0, 253}, {0, 0, 245}, {0, 100, 325}, {256, 1, 251}, {255, 1, 250}};
        for (int[] row : rows) {
            due("drum with ambient " + row[0] + " and power " + row[1],
                answer("count 2", "setAmbient " + row[0], "setPower " + row[1], "run 1"), row[2]);
        }
    }

    private static void drumAndBeans() {
        // 330 + (800 - 16) / 10 = 408, less (330 - 250) * mass / 20000: the beans as they were, too
        int[][] rows = {{100, 408}, {249, 408}, {250, 407}, {499, 407}, {500, 406}, {749, 406}, {750, 405},
            {999, 405}, {1000, 404}};
        for (int[] row : rows) {
            due("drum with a mass of " + row[0],
                answer("count 2", "setPower 100", "run 1", "charge " + row[0], "run 1"), row[1]);
        }
        // a drum of 381: 131 * 458 / 20000 is 2, and just not 3; then 381 - 3 - 2
        due("drum with a mass of 458", answer("count 2", "setPower 100", "run 1", "setPower 66", "run 1",
            "charge 458", "setPower 0", "run 1"), 376);
        // beans at 400 in a drum of 250 warm it: 250 + 30 / 10 - (-150 * mass / 20000, rounded down)
        int[][] warm = {{100, 254}, {133, 254}, {134, 255}, {266, 255}, {267, 256}, {1000, 261}};
        for (int[] row : warm) {
            due("drum warmed by a mass of " + row[0],
                answer("count 2", "setAmbient 400", "charge " + row[0], "run 1"), row[1]);
        }
        due("nothing is exchanged when cooling",
            answer("count 2", "setPower 100", "run 1", "charge 1000", "drop", "run 1"), 408);
        due("nothing is exchanged when empty", answer("count 2", "setPower 100", "run 2"), 408);
    }

    private static void beansRounded() {
        // the beans: 250 + (drum - 250) / 20 with the drum of this tick
        int[][] rows = {{0, 250}, {24, 250}, {25, 251}, {49, 251}, {50, 252}, {74, 252}, {75, 253}, {100, 254}};
        for (int[] row : rows) {
            due("beans with power " + row[0],
                answer("batch 0", "setPower " + row[0], "charge 100", "run 1"), row[1]);
        }
        // beans above the drum: the drum becomes 251, and (251 - 259) / 20 is -1
        due("beans above the drum", answer("batch 0", "setAmbient 259", "charge 100", "run 1"), 258);
    }

    private static void beansCooling() {
        String[] warm = {"setAmbient 400", "charge 100", "drop"};
        int[][] rows = {{0, 10, 360}, {400, 50, 400}, {399, 1, 400}, {300, 1, 399}, {301, 1, 400}, {201, 1, 399},
            {200, 1, 398}, {399, 50, 400}, {398, 50, 399}, {397, 50, 399}};
        for (int[] row : rows) {
            due("beans at 400 with ambient " + row[0] + " and fan " + row[1],
                answer("batch 0", Script.join(warm, "setAmbient " + row[0], "setFan " + row[1], "run 1")), row[2]);
        }
        String[] cold = {"setAmbient 100", "charge 100", "drop"};
        int[][] colder = {{101, 1, 101}, {100, 50, 100}, {200, 1, 101}, {201, 1, 102}, {400, 50, 250}, {101, 50, 101}};
        for (int[] row : colder) {
            due("beans at 100 with ambient " + row[0] + " and fan " + row[1],
                answer("batch 0", Script.join(cold, "setAmbient " + row[0], "setFan " + row[1], "run 1")), row[2]);
        }
    }

    private static void probeRounded() {
        // the drum: 250 + 8 * power / 10; the probe: + a quarter of that
        int[][] rows = {{0, 250}, {4, 250}, {5, 251}, {9, 251}, {10, 252}, {100, 270}};
        for (int[] row : rows) {
            due("probe with power " + row[0], answer("run 1", "setPower " + row[0]), row[1]);
        }
        // the drum falls to 249: (249 - 250) / 60 is -1
        due("probe above the drum", answer("run 1", "setAmbient 201", "setProbe 60 0"), 249);
        // the beans become 254 and the drum 330
        due("roasting: the beans", answer("run 1", "setPower 100", "setProbe 1 0", "charge 100"), 254);
        due("cooling: the drum", answer("run 1", "setPower 100", "setProbe 1 0", "charge 100", "drop"), 330);
        due("empty: the drum",
            answer("run 1", "setPower 100", "setProbe 1 0", "charge 100", "drop", "takeAway"), 330);
    }

    private static void popsAtTheCrackTemperature() {
        int[][] rows = {{1541, 0}, {1540, 0}, {1539, 1}, {1538, 1}, {1537, 2}, {1536, 2}, {1535, 3}, {1501, 20},
            {1500, 20}};
        for (int[] row : rows) {
            RoastKeeper k = hot("setCrack " + row[0] + " 30", "run 8");
            due("beans", k.batch(0), 1539);
            due("pops with a crack at " + row[0], k.batch(5), row[1]);
            due("all pops with a crack at " + row[0], k.batch(4), row[1]);
        }
        RoastKeeper k = hot("run 8", "setCrack 1665 30", "run 1");
        due("below the crack temperature again", k.batch(5), 0);
        due("all pops stay", k.batch(4), 20);
        due("the window stays", k.batch(6), 20);
        k = hot("run 8", "setCrack 1664 30", "run 1");
        due("not below it", k.batch(5), 1);
        k = hot("run 8", "drop", "run 3");
        due("no pops when cooling", k.batch(4), 20);
    }

    private static void popsAtMostAThousand() {
        due("995 after 13 ticks", hot("run 13").batch(4), 995);
        due("5 more, for 348", hot("run 14").batch(5), 5);
        due("1000", hot("run 14").batch(4), 1000);
        due("no more", hot("run 15").batch(5), 0);
        due("1000", hot("run 15").batch(4), 1000);
        due("1000", hot("run 200").batch(4), 1000);
        // the next batch has a thousand of its own
        RoastKeeper k = hot("run 20", "drop", "setFan 50", "run 30", "takeAway", "charge 100", "run 200");
        due("1000 of the next batch", k.batch(4), 1000);
        // with a crack at 1506 the first 13 ticks have 17 + 80 + 139 + 195 + 248 + 298 = 977
        k = hot("setCrack 1506 30", "run 13");
        due("977", k.batch(4), 977);
        k.setCrack(2151, 30);
        k.run(1);
        // the beans are 2195: 44 / 2 + 1 are just the 23 that are left
        due("just what is left", k.batch(5), 23);
        due("1000", k.batch(4), 1000);
        k.run(1);
        due("none left", k.batch(5), 0);
        k = hot("setCrack 1506 30", "run 13", "setCrack 2153 30", "run 1");
        due("one fewer than what is left", k.batch(5), 22);
        k.run(1);
        due("the last one", k.batch(5), 1);
    }

    private static void popsOfTheLatestTick() {
        due("no tick yet", hot().batch(5), 0);
        due("the latest tick", hot("run 9").batch(5), 83);
        due("the latest tick in which it was roasting", hot("run 9", "drop", "run 5").batch(5), 83);
        due("no tick of roasting", hot("drop", "run 5").batch(5), 0);
        RoastKeeper k = hot("run 9", "drop", "setFan 50", "run 30", "takeAway", "charge 100");
        due("none of another batch", k.batch(5), 0);
        k.drop();
        due("none of another batch when cooling", k.batch(5), 0);
    }

    private static void lossAtARow() {
        String[] bare = {"setRow 1000 -1", "setRow 1500 -1", "setRow 1900 -1", "setRow 2100 -1"};
        due("no rows", hot(Script.join(bare, "run 30")).batch(3), 0);
        due("below the row", hot(Script.join(bare, "setRow 1540 7", "run 8")).batch(3), 0);
        due("the row's own temperature", hot(Script.join(bare, "setRow 1539 7", "run 8")).batch(3), 7);
        due("above the row", hot(Script.join(bare, "setRow 1538 7", "run 8")).batch(3), 7);
        due("twice above the row", hot(Script.join(bare, "setRow 1538 7", "run 9")).batch(3), 14);
        // 966 and 1121, 1268, 1407: 0 + 3 * 2
        due("the rows at first", hot("run 7").batch(3), 6);
        due("1539 has 6", hot("run 8").batch(3), 12);
        due("a greater rate above", hot("setRow 1539 999", "run 8").batch(3), 1005);
        due("3018 and 3066 have that of 3000", hot(Script.join(bare, "setRow 3000 7", "run 27")).batch(3), 14);
        due("2967 has not", hot(Script.join(bare, "setRow 3000 7", "run 25")).batch(3), 0);
        due("no loss when cooling", hot("run 8", "drop", "run 1").batch(3), 12);
        due("none at charging", hot("setRow 0 999").batch(3), 0);
        due("no loss of another batch",
            hot("run 8", "drop", "setFan 50", "run 30", "takeAway", "charge 100").batch(3), 0);
    }

    private static void windowOfAYoungBatch() {
        // the pops of the ages 8 to 13 are not of this batch
        RoastKeeper k = hot("setCrack 1500 1", "run 13", "drop", "setFan 50", "run 30", "takeAway", "charge 1000");
        for (int age = 0; age <= 6; age++) {
            due("window at age " + age, k.batch(6), 0);
            due("pops at age " + age, k.batch(5), 0);
            due("nothing detected at age " + age, k.batch(7), Check.NONE);
            k.run(1);
        }
        // the same without any ticks between
        k = Script.after("setPower 100", "run 200", "setAmbient 400", "setCrack 1500 1", "charge 100", "run 8");
        int pops = k.batch(4);
        CHECK.due("pops in one of the first ticks", pops > 0 ? 1 : 0, 1);
        due("so many ticks were not yet", k.batch(6), pops);
    }

    private static void windowOfSixTicks() {
        int[] windows = {0, 20, 103, 245, 443, 694, 995, 980, 897, 755, 557, 306, 5, 0};
        for (int n = 0; n < windows.length; n++) {
            due("window at age " + (7 + n), hot("run " + (7 + n)).batch(6), windows[n]);
        }
        RoastKeeper k = hot("run 8", "setCrack 2300 30", "run 5");
        due("the 5 ticks before it", k.batch(6), 20);
        k.run(1);
        due("not the sixth", k.batch(6), 0);
        k = hot("run 13", "drop", "run 4");
        due("as it was when dropped", k.batch(6), 995);
    }

    private static void thresholdToDetect() {
        // windows: 20 at age 8, 103 at 9, 245 at 10, 443 at 11, 694 at 12
        int[][] rows = {{1, 8}, {19, 8}, {20, 8}, {21, 9}, {102, 9}, {103, 9}, {104, 10}, {245, 10}, {246, 11},
            {443, 11}, {444, 12}, {600, 12}};
        for (int[] row : rows) {
            RoastKeeper k = hot("setCrack 1500 " + row[0], "run " + (row[1] - 1));
            due("threshold " + row[0] + ": not yet", k.batch(7), Check.NONE);
            k.run(1);
            due("threshold " + row[0], k.batch(7), row[1]);
            due("threshold " + row[0] + ": has not ended", k.batch(8), Check.NONE);
            k.run(1);
            due("detected once", k.batch(7), row[1]);
        }
        RoastKeeper k = hot("setCrack 1500 600", "run 11", "setCrack 1500 443");
        due("it is looked for in ticks alone", k.batch(7), Check.NONE);
        k.run(1);
        due("then", k.batch(7), 12);
        due("not when cooling", hot("setCrack 1500 600", "run 11", "drop", "setCrack 1500 1", "run 3").batch(7),
            Check.NONE);
        due("not in another batch", hot("run 13", "drop", "setFan 50", "run 30", "takeAway", "charge 100").batch(7),
            Check.NONE);
        k = hot("setCrack 1500 600", "run 11", "setCrack 2300 443", "run 1");
        due("no pops in this tick", k.batch(5), 0);
        due("those of the 5 before it are enough", k.batch(7), 12);
    }

    private static void thresholdToEnd() {
        // windows: 755 at age 16, 557 at 17, 306 at 18, 5 at 19, 0 at 20
        int[][] rows = {{600, 17}, {558, 17}, {557, 18}, {307, 18}, {306, 19}, {6, 19}, {5, 20}, {1, 20}};
        for (int[] row : rows) {
            RoastKeeper k = hot("setCrack 1500 " + row[0], "run " + (row[1] - 1));
            due("threshold " + row[0] + ": not yet", k.batch(8), Check.NONE);
            k.run(1);
            due("threshold " + row[0], k.batch(8), row[1]);
            k.run(5);
            due("ended once", k.batch(8), row[1]);
        }
        due("not ended if it was not detected", hot("setCrack 2300 1", "run 15").batch(8), Check.NONE);
        due("not when cooling", hot("run 13", "drop", "run 20").batch(8), Check.NONE);
        RoastKeeper k = hot("setCrack 1500 20", "run 8", "setCrack 1500 104", "run 1");
        due("less than a greater threshold", k.batch(8), 9);
        k.run(1);
        due("not detected again: 245 are 104 at least", k.batch(7) * 100 + k.batch(8), 809);
        due("pops go on when it has ended", k.batch(4), 20 + 83 + 142);
        due("not ended in another batch",
            hot("run 25", "drop", "setFan 50", "run 30", "takeAway", "charge 100").batch(8), Check.NONE);
    }

    private static void hottestBeans() {
        due("at charging", hot().batch(9), 250);
        due("at charging, then colder", answer("batch 9", "setAmbient 400", "charge 100", "run 5"), 400);
        due("at the end of a tick", hot("run 8").batch(9), 1539);
        RoastKeeper k = hot("run 8", "setPower 0", "run 200");
        int peak = k.batch(9);
        due("colder than once", k.batch(0) < peak ? 1 : 0, 1);
        k.run(50);
        due("the greatest stays", k.batch(9), peak);
        k = hot("run 8", "drop", "setAmbient 400", "run 3");
        due("cooling has no part in it", k.batch(9), 1539);
        k = Script.after("setAmbient 0", "charge 100", "drop", "setAmbient 400", "setFan 50", "run 9");
        due("beans warmed when cooling", k.batch(0) > 0 ? 1 : 0, 1);
        due("have no part in it", k.batch(9), 0);
        k.takeAway();
        k.charge(100);
        due("a new batch has its own", k.batch(9), 400);
    }

    /** Beans at 400 in a drum of 250: all steps take the beans as they are, and not as they once were. */
    private static void beansGrowingColder() {
        String[] start = {"setAmbient 400", "setProbe 1 0", "setRow 0 1", "setRow 400 5", "charge 1000"};
        // 250 + 30 / 10 + 8 and 400 - 7; 261 + 28 / 10 + 7 and 393 - 7; 270 + 26 / 10 + 6 and 386 - 6
        int[] drums = {261, 270, 278, 286};
        int[] beans = {393, 386, 380, 375};
        RoastKeeper k = Script.after(start);
        for (int n = 0; n < drums.length; n++) {
            due("the probe follows the beans", k.run(1), beans[n]);
            due("drum warmed", k.count(2), drums[n]);
            due("beans", k.batch(0), beans[n]);
            due("the rate is that of colder beans", k.batch(3), n + 1);
            due("hottest", k.batch(9), 400);
        }
        due("they are as hot as they are", k.ticksTo(375), 0);
        due("they were hotter, but are not", k.ticksTo(376), Check.NONE);
        due("never that hot again", k.ticksTo(400), Check.NONE);
        k.drop();
        due("hottest in the log", k.logged(0, 5), 400);
        k.setAmbient(275);
        k.run(1);
        due("cooled by 100 * 10 / 100", k.batch(0), 365);
        due("takeAway tells what they are", k.takeAway(), 365);
        due("the log stays", k.logged(0, 5), 400);
    }

    /** At age 30 the drum is at 1467 and the beans are at 1574, and they were at 1597. */
    private static void beansGrowingColderThatPop() {
        String[] start = {"setPower 100", "run 200", "setCrack 2300 30", "charge 1000", "setPower 0", "run 30"};
        due("beans", answer("batch 0", start), 1574);
        due("hottest", answer("batch 9", start), 1597);
        // 1467 - 25 + 6; then 1574 - 7: 7 / 2 + 1 pops
        RoastKeeper k = Script.after(Script.join(start, "setCrack 1560 30", "setRow 1580 99", "setProbe 1 0"));
        int loss = k.batch(3);
        due("the probe follows the beans", k.run(1), 1567);
        due("drum", k.count(2), 1448);
        due("pops", k.batch(5), 4);
        due("loss", k.batch(3), loss + 6);
        k.setCrack(1590, 30);
        k.run(1);
        due("beans", k.batch(0), 1560);
        due("below the crack temperature, as they are", k.batch(5), 0);
        due("all pops stay", k.batch(4), 4);
        due("ticksTo of what they were", k.ticksTo(1597), Check.NONE);
        due("drop", k.drop(), loss + 12);
        due("hottest in the log", k.logged(0, 5), 1597);
    }

    private static void forecastsComeTrue() {
        String[][] starts = {States.ROASTING, Script.join(States.ROASTING, "removePoint 0"),
            Script.join(States.ROASTING, "setController 0 60 7 40"), {"setPower 100", "charge 1000"},
            {"setPoint 0 3000", "setController 1 50 5 50", "charge 200"}};
        for (String[] start : starts) {
            int beansBefore = answer("batch 0", start);
            int lossBefore = answer("batch 3", start);
            for (int tick = 1; tick <= 200; tick++) {
                RoastKeeper k = Script.after(Script.join(start, "run " + tick));
                int beans = k.batch(0);
                int loss = k.batch(3);
                for (int wanted : new int[] {beansBefore + 1, beans}) {
                    if (beans > beansBefore && wanted <= 3000) {
                        due("ticksTo(" + wanted + ")", answer("ticksTo " + wanted, start), tick);
                    }
                }
                beansBefore = Math.max(beansBefore, beans);
                if (loss > lossBefore) {
                    due("ticksToLoss(" + loss + ")", answer("ticksToLoss " + loss, start), tick);
                    due("ticksToLoss(" + (lossBefore + 1) + ")", answer("ticksToLoss " + (lossBefore + 1), start), tick);
                    lossBefore = loss;
                }
            }
        }
    }

    private static void forecastsOfTheLastTick() {
        String[] slow = {"setAmbient 0", "setPoint 0 0", "setPoint 400 3000", "setController 1 50 5 50", "charge 300"};
        for (int tick = 198; tick <= 203; tick++) {
            int before = answer("batch 0", Script.join(slow, "run 150", "run " + (tick - 151)));
            int then = answer("batch 0", Script.join(slow, "run 150", "run " + (tick - 150)));
            due("it still rises", then > before ? 1 : 0, 1);
            due("the tick " + tick, answer("ticksTo " + then, slow), tick <= 200 ? tick : Check.NONE);
        }
        String[] loss = {"setRow 0 1", "charge 100"};
        due("the 199th tick", answer("ticksToLoss 199", loss), 199);
        due("the 200th tick", answer("ticksToLoss 200", loss), 200);
        due("no 201st", answer("ticksToLoss 201", loss), Check.NONE);
    }

    /** A cold roaster stays as it is, so that its forecasts are the same at all times. */
    private static void forecastsBeyondTheTime() {
        String[] start = {"setPoint 0 255", "setPoint 60 900", "setController 0 4 2 50", "setPower 70", "charge 300"};
        String[] calls = {"ticksTo 255", "ticksTo 400", "ticksTo 900", "ticksToLoss 5", "ticksToLoss 50",
            "bestBias 20", "bestBias 60", "bestBias 100"};
        String[] nearlyOver = {"49x run 200", "run 195"};
        String[] over = {"50x run 200"};
        for (String call : calls) {
            int early = answer(call, start);
            due(call + " tells something", early > 0 ? 1 : 0, 1);
            due(call + " over the end of the time", answer(call, Script.join(nearlyOver, start)), early);
            due(call + " after the end of the time", answer(call, Script.join(over, start)), early);
        }
    }

    /** The bias for which the probe follows best when it is really set. */
    private static int best(int ticks, int p, int i, String... start) {
        int best = -1;
        int smallest = Integer.MAX_VALUE;
        for (int bias = 0; bias <= 100; bias++) {
            RoastKeeper k = Script.after(start);
            k.setController(1, p, i, bias);
            int sum = 0;
            for (int n = 0; n < ticks; n++) {
                int probe = k.run(1);
                sum += Math.abs(k.target(k.batch(2)) - probe);
            }
            if (sum < smallest) {
                smallest = sum;
                best = bias;
            }
        }
        return best;
    }

    private static void bestBiasComesTrue() {
        String[] slow = {"setPower 60", "run 100", "setPoint 0 600", "setPoint 60 1300", "setPoint 300 2000",
            "charge 400", "setController 1 4 2 50", "run 60"};
        String[] jump = {"setPoint 0 260", "setPoint 99 260", "setPoint 100 3000", "setProbe 1 0", "charge 100"};
        for (int ticks : new int[] {1, 2, 3, 10, 50, 98, 99, 100}) {
            String call = "bestBias " + ticks;
            due(call, answer(call, slow), best(ticks, 4, 2, slow));
            String[] off = Script.join(slow, "setController 0 3 1 3");
            due(call + ", off now", answer(call, off), best(ticks, 3, 1, off));
            String[] lagging = Script.join(slow, "setProbe 20 5");
            due(call + ", with a greater lag", answer(call, lagging), best(ticks, 4, 2, lagging));
            String[] bare = Script.join(slow, "setController 0 0 0 3");
            due(call + ", without P and I", answer(call, bare), best(ticks, 0, 0, bare));
            due(call + ", with a jump", answer(call, jump), best(ticks, 50, 5, jump));
        }
        // rounding makes the sums rise and fall over the biases: the first dip need not be the deepest one
        String[] uneven = {"setPower 60", "run 20", "setPoint 0 600", "setController 1 2 0 50", "charge 100"};
        due("the deepest dip", answer("bestBias 3", uneven), 92);
        due("the deepest dip comes true", best(3, 2, 0, uneven), 92);
        String[] cold = {"setPower 60", "setPoint 0 300", "setController 1 5 0 50", "charge 400"};
        due("the deepest dip", answer("bestBias 11", cold), 61);
        due("the deepest dip comes true", best(11, 5, 0, cold), 61);
    }

    private static void bestBiasOfSeveral() {
        String[] start = {"setController 0 0 0 0", "setProbe 1 0", "charge 100"};
        // the beans become 250 from bias 0 on, 251 from 25 on, 252 from 50 on, 253 from 75 on, 254 at 100
        int[][] rows = {{0, 0}, {249, 0}, {250, 0}, {251, 25}, {252, 50}, {253, 75}, {254, 100}, {255, 100},
            {3000, 100}};
        for (int[] row : rows) {
            due("the smallest of several for " + row[0],
                answer("bestBias 1", Script.join(start, "setPoint 0 " + row[0])), row[1]);
        }
        // the target is that of the age after the tick
        due("age 1", answer("bestBias 1", Script.join(start, "setPoint 0 250", "setPoint 1 252")), 50);
        due("not age 2", answer("bestBias 1", Script.join(start, "setPoint 1 251", "setPoint 2 254")), 25);
    }
}
