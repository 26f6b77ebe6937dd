import java.util.ArrayDeque;
import java.util.ArrayList;
import java.util.Deque;
import java.util.List;
import java.util.Map;
import java.util.TreeMap;
import java.util.regex.Matcher;
import java.util.regex.Pattern;

/**
 * A second roaster, written from the document alone and in another way than RoastKeeper: maps,
 * lists and whole copies. ModelTest compares the two.
 */
final class Model {
    static final int INVALID = -100001;
    static final int STATE = -100002;
    static final int FULL = -100003;
    static final int NONE = -100009;

    private static final class Batch {
        int temperature, mass, age, loss, hottest;
        int crackAt = NONE, endedAt = NONE;
        List<Integer> popsOfTicks = new ArrayList<>();

        Batch copy() {
            Batch b = new Batch();
            b.temperature = temperature;
            b.mass = mass;
            b.age = age;
            b.loss = loss;
            b.hottest = hottest;
            b.crackAt = crackAt;
            b.endedAt = endedAt;
            b.popsOfTicks.addAll(popsOfTicks);
            return b;
        }

        int allPops() {
            return popsOfTicks.stream().mapToInt(Integer::intValue).sum();
        }

        int window() {
            int n = popsOfTicks.size();
            return popsOfTicks.subList(Math.max(0, n - 6), n).stream().mapToInt(Integer::intValue).sum();
        }
    }

    private static final class World {
        int time, drum = 250, probe = 250, ambient = 250, power, fan = 10, lag = 4, fouling;
        int on, p = 50, i = 5, bias = 50, sum;
        int crack = 1960, threshold = 30, dropped;
        char phase = 'e';
        Batch batch;
        TreeMap<Integer, Integer> profile = new TreeMap<>();
        TreeMap<Integer, Integer> table = new TreeMap<>(Map.of(1000, 2, 1500, 6, 1900, 14, 2100, 25));
        List<int[]> log = new ArrayList<>();

        World copy() {
            World w = new World();
            w.time = time; w.drum = drum; w.probe = probe; w.ambient = ambient; w.power = power;
            w.fan = fan; w.lag = lag; w.fouling = fouling; w.on = on; w.p = p; w.i = i; w.bias = bias;
            w.sum = sum; w.crack = crack; w.threshold = threshold; w.dropped = dropped; w.phase = phase;
            w.batch = batch == null ? null : batch.copy();
            w.profile = new TreeMap<>(profile);
            w.table = new TreeMap<>(table);
            w.log = new ArrayList<>(log);
            return w;
        }

        int target(int t) {
            if (profile.containsKey(t)) return profile.get(t);
            if (t < profile.firstKey()) return profile.firstEntry().getValue();
            if (t > profile.lastKey()) return profile.lastEntry().getValue();
            Map.Entry<Integer, Integer> a = profile.lowerEntry(t), b = profile.higherEntry(t);
            int product = (b.getValue() - a.getValue()) * (t - a.getKey());
            return a.getValue() + down(product, b.getKey() - a.getKey());
        }

        int rate(int temperature) {
            Map.Entry<Integer, Integer> row = table.floorEntry(temperature);
            return row == null ? 0 : row.getValue();
        }

        void tick() {
            boolean roasting = phase == 'r';
            time += 1;
            if (roasting) batch.age += 1;
            if (on == 1 && roasting && !profile.isEmpty()) {
                int deviation = target(batch.age) - probe;
                sum = Math.min(20000, Math.max(-20000, sum + deviation));
                power = bias + down(p * deviation, 100) + down(i * sum, 1000);
                power = Math.min(100, Math.max(0, power));
            }
            int old = drum;
            drum = old + down(8 * power - down(old - ambient, 5), 10);
            if (roasting) drum = drum - down((old - batch.temperature) * batch.mass, 20000);
            if (roasting) batch.temperature += down(drum - batch.temperature, 20);
            if (phase == 'c') batch.temperature -= down((batch.temperature - ambient) * fan, 100);
            if (roasting) {
                int pops = 0;
                if (batch.temperature >= crack) {
                    pops = Math.min(down(batch.temperature - crack, 2) + 1, 1000 - batch.allPops());
                }
                batch.popsOfTicks.add(pops);
                batch.loss += rate(batch.temperature);
            }
            int s = roasting ? batch.temperature : drum;
            probe += down(s - probe, lag);
            if (roasting) {
                if (batch.crackAt == NONE) {
                    if (batch.window() >= threshold) batch.crackAt = batch.age;
                } else if (batch.endedAt == NONE && batch.window() < threshold) {
                    batch.endedAt = batch.age;
                }
                batch.hottest = Math.max(batch.hottest, batch.temperature);
            }
        }
    }

    private World world = new World();
    private final Deque<World> history = new ArrayDeque<>();
    private String text = "";

    /** Division rounded down, by the remainder instead of by floorDiv. */
    private static int down(int a, int b) {
        int q = a / b;
        return a % b != 0 && (a < 0) != (b < 0) ? q - 1 : q;
    }

    private static boolean out(int n, int from, int to) {
        return n < from || n > to;
    }

    private void action() {
        history.addLast(world.copy());
        if (history.size() > 5) history.removeFirst();
    }

    int setAmbient(int ambient) {
        if (out(ambient, 0, 400)) return INVALID;
        action();
        int was = world.ambient;
        world.ambient = ambient;
        return was;
    }

    int setPower(int power) {
        if (out(power, 0, 100)) return INVALID;
        action();
        int was = world.power;
        world.power = power;
        return was;
    }

    int setController(int on, int p, int i, int bias) {
        if (out(on, 0, 1) || out(p, 0, 200) || out(i, 0, 200) || out(bias, 0, 100)) return INVALID;
        action();
        boolean changes = on != world.on || p != world.p || i != world.i || bias != world.bias;
        world.on = on;
        world.p = p;
        world.i = i;
        world.bias = bias;
        return changes ? 1 : 0;
    }

    int setProbe(int lag, int fouling) {
        if (out(lag, 1, 60) || out(fouling, 0, 5)) return INVALID;
        action();
        int was = world.lag;
        world.lag = lag;
        world.fouling = fouling;
        return was;
    }

    int setCrack(int temperature, int threshold) {
        if (out(temperature, 1500, 2300) || out(threshold, 1, 600)) return INVALID;
        action();
        boolean changes = temperature != world.crack || threshold != world.threshold;
        world.crack = temperature;
        world.threshold = threshold;
        return changes ? 1 : 0;
    }

    int setFan(int fan) {
        if (out(fan, 1, 50)) return INVALID;
        action();
        int was = world.fan;
        world.fan = fan;
        return was;
    }

    int setPoint(int tick, int temperature) {
        if (out(tick, 0, 400) || out(temperature, 0, 3000)) return INVALID;
        if (!world.profile.containsKey(tick) && world.profile.size() == 8) return FULL;
        action();
        world.profile.put(tick, temperature);
        return world.profile.size();
    }

    int removePoint(int tick) {
        if (out(tick, 0, 400)) return INVALID;
        if (!world.profile.containsKey(tick)) return STATE;
        action();
        return world.profile.remove(tick);
    }

    int setRow(int temperature, int rate) {
        if (out(temperature, 0, 3000) || out(rate, -1, 999)) return INVALID;
        boolean there = world.table.containsKey(temperature);
        if (rate == -1 && !there) return STATE;
        if (rate != -1 && !there && world.table.size() == 6) return FULL;
        action();
        if (rate == -1) world.table.remove(temperature);
        else world.table.put(temperature, rate);
        return world.table.size();
    }

    int append(int character) {
        if (out(character, 1, 255)) return INVALID;
        if (text.length() == 100) return FULL;
        text += (char) character;
        return text.length();
    }

    int clearText() {
        int was = text.length();
        text = "";
        return was;
    }

    int load() {
        TreeMap<Integer, Integer> read = new TreeMap<>();
        Matcher tokens = Pattern.compile("[0-9]+|[^ ]", Pattern.DOTALL).matcher(text);
        int place = 0;
        int tick = -1;
        while (tokens.find()) {
            String token = tokens.group();
            boolean fits;
            if (place == 2) {
                fits = token.equals(";");
            } else {
                // Longer numbers than four digits are out of every range.
                boolean number = token.matches("0|[1-9][0-9]{0,3}");
                int value = number ? Integer.parseInt(token) : -1;
                if (place == 0) {
                    fits = number && value <= 400 && value > tick && read.size() < 8;
                    tick = value;
                } else {
                    fits = number && value <= 3000;
                    read.put(tick, value);
                }
            }
            if (!fits) return -200000 - tokens.start();
            place = (place + 1) % 3;
        }
        if (place != 0) return -200000 - text.length();
        action();
        world.profile = read;
        text = "";
        return read.size();
    }

    int charge(int mass) {
        if (out(mass, 100, 1000)) return INVALID;
        if (world.phase != 'e') return STATE;
        action();
        world.batch = new Batch();
        world.batch.mass = mass;
        world.batch.temperature = world.ambient;
        world.batch.hottest = world.ambient;
        world.phase = 'r';
        world.sum = 0;
        return world.drum;
    }

    int drop() {
        if (world.phase != 'r') return STATE;
        action();
        world.phase = 'c';
        world.dropped += 1;
        Batch b = world.batch;
        world.log.add(0, new int[] {world.dropped, b.age, b.crackAt, b.endedAt, b.loss, b.hottest});
        if (world.log.size() > 8) world.log.remove(8);
        world.lag = Math.min(60, world.lag + world.fouling);
        return b.loss;
    }

    int takeAway() {
        if (world.phase != 'c' || world.batch.temperature > world.ambient + 150) return STATE;
        action();
        int temperature = world.batch.temperature;
        world.batch = null;
        world.phase = 'e';
        return temperature;
    }

    int run(int ticks) {
        if (out(ticks, 1, 200)) return INVALID;
        if (world.time + ticks > 10000) return FULL;
        action();
        for (int k = 0; k < ticks; k++) world.tick();
        return world.probe;
    }

    int undo() {
        if (history.isEmpty()) return STATE;
        world = history.removeLast();
        return history.size();
    }

    int count(int what) {
        if (out(what, 0, 12)) return INVALID;
        int phase = "erc".indexOf(world.phase);
        return new int[] {world.time, phase, world.drum, world.probe, world.ambient, world.power, world.lag,
            world.sum, world.profile.size(), world.table.size(), world.log.size(), history.size(),
            text.length()}[what];
    }

    int batch(int what) {
        if (out(what, 0, 9)) return INVALID;
        if (world.phase == 'e') return STATE;
        Batch b = world.batch;
        int latest = b.popsOfTicks.isEmpty() ? 0 : b.popsOfTicks.get(b.popsOfTicks.size() - 1);
        return new int[] {b.temperature, b.mass, b.age, b.loss, b.allPops(), latest, b.window(),
            b.crackAt, b.endedAt, b.hottest}[what];
    }

    int target(int tick) {
        if (out(tick, 0, 1000)) return INVALID;
        return world.profile.isEmpty() ? NONE : world.target(tick);
    }

    int rate(int temperature) {
        return out(temperature, 0, 3000) ? INVALID : world.rate(temperature);
    }

    int logged(int index, int what) {
        if (index < 0 || out(what, 0, 5)) return INVALID;
        return index < world.log.size() ? world.log.get(index)[what] : NONE;
    }

    int drift(int what) {
        if (out(what, 1, 5)) return INVALID;
        long n = 0, x = 0, v = 0, xv = 0, xx = 0;
        for (int[] entry : world.log) {
            if (what == 2 && entry[2] == NONE || what == 3 && entry[3] == NONE) continue;
            n += 1;
            x += entry[0];
            v += entry[what];
            xv += (long) entry[0] * entry[what];
            xx += (long) entry[0] * entry[0];
        }
        return n < 2 ? NONE : (int) Math.floorDiv(100 * (n * xv - x * v), n * xx - x * x);
    }

    int ticksTo(int temperature) {
        if (out(temperature, 0, 3000)) return INVALID;
        if (world.phase != 'r') return STATE;
        World w = world.copy();
        for (int k = 0; k <= 200; k++) {
            if (k > 0) w.tick();
            if (w.batch.temperature >= temperature) return k;
        }
        return NONE;
    }

    int ticksToLoss(int loss) {
        if (out(loss, 0, 100000)) return INVALID;
        if (world.phase != 'r') return STATE;
        World w = world.copy();
        for (int k = 0; k <= 200; k++) {
            if (k > 0) w.tick();
            if (w.batch.loss >= loss) return k;
        }
        return NONE;
    }

    int bestBias(int ticks) {
        if (out(ticks, 1, 100)) return INVALID;
        if (world.phase != 'r' || world.profile.isEmpty()) return STATE;
        TreeMap<Integer, Integer> biasOfSum = new TreeMap<>();
        for (int bias = 0; bias <= 100; bias++) {
            World w = world.copy();
            w.on = 1;
            w.bias = bias;
            int sum = 0;
            for (int k = 0; k < ticks; k++) {
                w.tick();
                sum += Math.abs(w.target(w.batch.age) - w.probe);
            }
            biasOfSum.putIfAbsent(sum, bias);
        }
        return biasOfSum.firstEntry().getValue();
    }
}
