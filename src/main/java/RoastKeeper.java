/** A simulator and logbook of a coffee roaster; ../shared/DOC.md says what each method promises. */
public final class RoastKeeper {
    public static final int INVALID_ARGUMENT = -100001;
    public static final int ILLEGAL_STATE = -100002;
    public static final int CAPACITY_EXCEEDED = -100003;
    public static final int NONE = -100009;

    private static final int TEXT_ERROR = -200000;

    private static final int MAX_AMBIENT = 400;
    private static final int MAX_POWER = 100;
    private static final int MAX_PARAMETER = 200;
    private static final int MAX_LAG = 60;
    private static final int MAX_TEMPERATURE = 3000;
    private static final int MAX_PROFILE_TICK = 400;
    private static final int MAX_RATE = 999;
    private static final int MAX_TIME = 10000;
    private static final int MAX_LOSS = 100000;
    private static final int MAX_POPS = 1000;
    private static final int MAX_SUM = 20000;
    private static final int COOLED = 150;
    private static final int FORECAST_TICKS = 200;

    private static final int POINTS = 8;
    private static final int ROWS = 6;
    private static final int LOGGED_BATCHES = 8;
    private static final int PROPERTIES = 6;
    private static final int TEXT_LENGTH = 100;
    private static final int STATES = 5;
    private static final int WINDOW = 6;

    private static final int EMPTY = 0;
    private static final int ROASTING = 1;
    private static final int COOLING = 2;

    private final State now;
    private final Roaster roaster;
    private final Settings settings;
    private final SortedRows profile;
    private final SortedRows losses;
    private final Log log;
    private final History history;
    private final Text text;
    private final ProfileReader reader;
    private final Roaster trial;

    public RoastKeeper() {
        now = new State();
        roaster = now.roaster;
        settings = roaster.settings;
        profile = now.profile;
        losses = now.losses;
        log = now.log;
        history = new History();
        text = new Text();
        reader = new ProfileReader();
        trial = new Roaster();
        losses.set(1000, 2);
        losses.set(1500, 6);
        losses.set(1900, 14);
        losses.set(2100, 25);
    }

    // ---- settings

    public int setAmbient(int ambient) {
        if (!inRange(ambient, 0, MAX_AMBIENT)) {
            return INVALID_ARGUMENT;
        }
        history.remember(now);
        int previous = settings.ambient;
        settings.ambient = ambient;
        return previous;
    }

    public int setPower(int power) {
        if (!inRange(power, 0, MAX_POWER)) {
            return INVALID_ARGUMENT;
        }
        history.remember(now);
        int previous = roaster.power;
        roaster.power = power;
        return previous;
    }

    public int setController(int on, int p, int i, int bias) {
        if (!inRange(on, 0, 1) || !inRange(p, 0, MAX_PARAMETER)
                || !inRange(i, 0, MAX_PARAMETER) || !inRange(bias, 0, MAX_POWER)) {
            return INVALID_ARGUMENT;
        }
        // A call that changes nothing is successful too, so it is recorded all the same.
        history.remember(now);
        boolean same = settings.controllerOn == on && settings.p == p
                && settings.i == i && settings.bias == bias;
        settings.controllerOn = on;
        settings.p = p;
        settings.i = i;
        settings.bias = bias;
        return same ? 0 : 1;
    }

    public int setProbe(int lag, int fouling) {
        if (!inRange(lag, 1, MAX_LAG) || !inRange(fouling, 0, 5)) {
            return INVALID_ARGUMENT;
        }
        history.remember(now);
        int previous = settings.lag;
        settings.lag = lag;
        settings.fouling = fouling;
        return previous;
    }

    public int setCrack(int temperature, int threshold) {
        if (!inRange(temperature, 1500, 2300) || !inRange(threshold, 1, 600)) {
            return INVALID_ARGUMENT;
        }
        history.remember(now);
        boolean same = settings.crackTemperature == temperature && settings.threshold == threshold;
        settings.crackTemperature = temperature;
        settings.threshold = threshold;
        return same ? 0 : 1;
    }

    public int setFan(int fan) {
        if (!inRange(fan, 1, 50)) {
            return INVALID_ARGUMENT;
        }
        history.remember(now);
        int previous = settings.fan;
        settings.fan = fan;
        return previous;
    }

    public int setPoint(int tick, int temperature) {
        if (!inRange(tick, 0, MAX_PROFILE_TICK) || !inRange(temperature, 0, MAX_TEMPERATURE)) {
            return INVALID_ARGUMENT;
        }
        if (!profile.hasRoomFor(tick)) {
            return CAPACITY_EXCEEDED;
        }
        history.remember(now);
        profile.set(tick, temperature);
        return profile.size;
    }

    public int removePoint(int tick) {
        if (!inRange(tick, 0, MAX_PROFILE_TICK)) {
            return INVALID_ARGUMENT;
        }
        if (!profile.has(tick)) {
            return ILLEGAL_STATE;
        }
        history.remember(now);
        int temperature = profile.valueBelow(tick);
        profile.remove(tick);
        return temperature;
    }

    public int setRow(int temperature, int rate) {
        if (!inRange(temperature, 0, MAX_TEMPERATURE) || !inRange(rate, -1, MAX_RATE)) {
            return INVALID_ARGUMENT;
        }
        boolean removing = rate == -1;
        if (removing && !losses.has(temperature)) {
            return ILLEGAL_STATE;
        }
        if (!removing && !losses.hasRoomFor(temperature)) {
            return CAPACITY_EXCEEDED;
        }
        history.remember(now);
        if (removing) {
            losses.remove(temperature);
        } else {
            losses.set(temperature, rate);
        }
        return losses.size;
    }

    public int append(int character) {
        if (!inRange(character, 1, 255)) {
            return INVALID_ARGUMENT;
        }
        if (text.length >= TEXT_LENGTH) {
            return CAPACITY_EXCEEDED;
        }
        text.add(character);
        return text.length;
    }

    public int clearText() {
        int previous = text.length;
        text.length = 0;
        return previous;
    }

    public int load() {
        int error = reader.errorPosition(text);
        if (error != ProfileReader.NO_ERROR) {
            return TEXT_ERROR - error;
        }
        history.remember(now);
        profile.copyFrom(reader.points);
        text.length = 0;
        return profile.size;
    }

    // ---- batches

    public int charge(int mass) {
        if (!inRange(mass, 100, 1000)) {
            return INVALID_ARGUMENT;
        }
        if (roaster.phase != EMPTY) {
            return ILLEGAL_STATE;
        }
        history.remember(now);
        roaster.startBatch(mass);
        return roaster.drum;
    }

    public int drop() {
        if (roaster.phase != ROASTING) {
            return ILLEGAL_STATE;
        }
        history.remember(now);
        roaster.phase = COOLING;
        log.enter(roaster.beans);
        settings.lag = Math.min(settings.lag + settings.fouling, MAX_LAG);
        return roaster.beans.loss;
    }

    public int takeAway() {
        if (roaster.phase != COOLING || roaster.beans.temperature - settings.ambient > COOLED) {
            return ILLEGAL_STATE;
        }
        history.remember(now);
        roaster.phase = EMPTY;
        return roaster.beans.temperature;
    }

    public int run(int ticks) {
        if (!inRange(ticks, 1, 200)) {
            return INVALID_ARGUMENT;
        }
        if (roaster.time + ticks > MAX_TIME) {
            return CAPACITY_EXCEEDED;
        }
        history.remember(now);
        for (int k = 0; k < ticks; k++) {
            roaster.tick(profile, losses);
        }
        return roaster.probe;
    }

    public int undo() {
        if (history.size <= 0) {
            return ILLEGAL_STATE;
        }
        history.restore(now);
        return history.size;
    }

    // ---- looking

    public int count(int what) {
        switch (what) {
            case 0: return roaster.time;
            case 1: return roaster.phase;
            case 2: return roaster.drum;
            case 3: return roaster.probe;
            case 4: return settings.ambient;
            case 5: return roaster.power;
            case 6: return settings.lag;
            case 7: return roaster.sum;
            case 8: return profile.size;
            case 9: return losses.size;
            case 10: return log.size;
            case 11: return history.size;
            case 12: return text.length;
            default: return INVALID_ARGUMENT;
        }
    }

    public int batch(int what) {
        if (!inRange(what, 0, 9)) {
            return INVALID_ARGUMENT;
        }
        if (roaster.phase == EMPTY) {
            return ILLEGAL_STATE;
        }
        return roaster.beans.number(what);
    }

    public int target(int tick) {
        if (!inRange(tick, 0, 1000)) {
            return INVALID_ARGUMENT;
        }
        return profile.size == 0 ? NONE : profile.valueOnLine(tick);
    }

    public int rate(int temperature) {
        if (!inRange(temperature, 0, MAX_TEMPERATURE)) {
            return INVALID_ARGUMENT;
        }
        return losses.valueBelow(temperature);
    }

    public int logged(int index, int what) {
        if (index < 0 || !inRange(what, 0, PROPERTIES - 1)) {
            return INVALID_ARGUMENT;
        }
        return index < log.size ? log.property(index, what) : NONE;
    }

    public int drift(int what) {
        if (!inRange(what, 1, PROPERTIES - 1)) {
            return INVALID_ARGUMENT;
        }
        return log.slope(what);
    }

    // ---- forecasts: they let the trial roaster run, never the real one

    public int ticksTo(int temperature) {
        if (!inRange(temperature, 0, MAX_TEMPERATURE)) {
            return INVALID_ARGUMENT;
        }
        if (roaster.phase != ROASTING) {
            return ILLEGAL_STATE;
        }
        trial.copyFrom(roaster);
        for (int ticks = 0; ticks <= FORECAST_TICKS; ticks++) {
            if (trial.beans.temperature >= temperature) {
                return ticks;
            }
            trial.tick(profile, losses);
        }
        return NONE;
    }

    public int ticksToLoss(int loss) {
        if (!inRange(loss, 0, MAX_LOSS)) {
            return INVALID_ARGUMENT;
        }
        if (roaster.phase != ROASTING) {
            return ILLEGAL_STATE;
        }
        trial.copyFrom(roaster);
        for (int ticks = 0; ticks <= FORECAST_TICKS; ticks++) {
            if (trial.beans.loss >= loss) {
                return ticks;
            }
            trial.tick(profile, losses);
        }
        return NONE;
    }

    public int bestBias(int ticks) {
        if (!inRange(ticks, 1, 100)) {
            return INVALID_ARGUMENT;
        }
        if (roaster.phase != ROASTING || profile.size == 0) {
            return ILLEGAL_STATE;
        }
        int best = 0;
        int smallest = deviationWith(0, ticks);
        for (int bias = 1; bias <= MAX_POWER; bias++) {
            int deviation = deviationWith(bias, ticks);
            if (deviation < smallest) {
                smallest = deviation;
                best = bias;
            }
        }
        return best;
    }

    private int deviationWith(int bias, int ticks) {
        trial.copyFrom(roaster);
        trial.settings.controllerOn = 1;
        trial.settings.bias = bias;
        int deviation = 0;
        for (int k = 0; k < ticks; k++) {
            trial.tick(profile, losses);
            deviation += Math.abs(profile.valueOnLine(trial.beans.age) - trial.probe);
        }
        return deviation;
    }

    // ---- small helpers

    private static boolean inRange(int number, int least, int greatest) {
        return number >= least && number <= greatest;
    }

    private static int clamp(int number, int least, int greatest) {
        return Math.max(least, Math.min(number, greatest));
    }

    // All divisions whose divisor is no constant come here, so that none can meet a 0.
    private static long quotient(long dividend, long divisor) {
        return divisor > 0 ? Math.floorDiv(dividend, divisor) : 0;
    }

    // All single elements of rows are read and written here, so that no index goes unlooked at.
    private static int at(int[] row, int index) {
        return index >= 0 && index < row.length ? row[index] : 0;
    }

    private static void put(int[] row, int index, int value) {
        if (index >= 0 && index < row.length) {
            row[index] = value;
        }
    }

    private static void copyRow(int[] from, int[] to) {
        System.arraycopy(from, 0, to, 0, Math.min(from.length, to.length));
    }

    /** What undo() brings back: everything but the text and the history. */
    private static final class State {
        final Roaster roaster = new Roaster();
        final SortedRows profile = new SortedRows(POINTS);
        final SortedRows losses = new SortedRows(ROWS);
        final Log log = new Log();

        void copyFrom(State other) {
            roaster.copyFrom(other.roaster);
            profile.copyFrom(other.profile);
            losses.copyFrom(other.losses);
            log.copyFrom(other.log);
        }
    }

    /** What the setters set, but for the power, which the controller sets too. */
    private static final class Settings {
        int ambient = 250;
        int controllerOn = 0;
        int p = 50;
        int i = 5;
        int bias = 50;
        int lag = 4;
        int fouling = 0;
        int crackTemperature = 1960;
        int threshold = 30;
        int fan = 10;

        void copyFrom(Settings other) {
            ambient = other.ambient;
            controllerOn = other.controllerOn;
            p = other.p;
            i = other.i;
            bias = other.bias;
            lag = other.lag;
            fouling = other.fouling;
            crackTemperature = other.crackTemperature;
            threshold = other.threshold;
            fan = other.fan;
        }
    }

    /** The drum, the beans in it, the probe and the controller's sum: all that a tick moves. */
    private static final class Roaster {
        final Settings settings = new Settings();
        final Beans beans = new Beans();
        int time = 0;
        int phase = EMPTY;
        int drum = 250;
        int probe = 250;
        int power = 0;
        int sum = 0;

        void copyFrom(Roaster other) {
            settings.copyFrom(other.settings);
            beans.copyFrom(other.beans);
            time = other.time;
            phase = other.phase;
            drum = other.drum;
            probe = other.probe;
            power = other.power;
            sum = other.sum;
        }

        void startBatch(int mass) {
            beans.start(mass, settings.ambient);
            phase = ROASTING;
            sum = 0;
        }

        void tick(SortedRows profile, SortedRows losses) {
            time++;
            if (phase == ROASTING) {
                beans.age++;
                steer(profile);
            }
            moveDrum();
            if (phase == ROASTING) {
                beans.roast(drum);
                beans.pop(settings.crackTemperature);
                beans.loss += losses.valueBelow(beans.temperature);
            } else if (phase == COOLING) {
                beans.cool(settings.ambient, settings.fan);
            }
            moveProbe();
            if (phase == ROASTING) {
                beans.lookForCrack(settings.threshold);
            }
        }

        private void steer(SortedRows profile) {
            if (settings.controllerOn != 1 || profile.size == 0) {
                return;
            }
            int deviation = profile.valueOnLine(beans.age) - probe;
            sum = clamp(sum + deviation, -MAX_SUM, MAX_SUM);
            int wanted = settings.bias + Math.floorDiv(settings.p * deviation, 100)
                    + Math.floorDiv(settings.i * sum, 1000);
            power = clamp(wanted, 0, MAX_POWER);
        }

        private void moveDrum() {
            int before = drum;
            int cooling = Math.floorDiv(before - settings.ambient, 5);
            drum = before + Math.floorDiv(8 * power - cooling, 10);
            if (phase == ROASTING) {
                drum -= Math.floorDiv((before - beans.temperature) * beans.mass, 20000);
            }
        }

        private void moveProbe() {
            int surroundings = phase == ROASTING ? beans.temperature : drum;
            probe += (int) quotient(surroundings - probe, settings.lag);
        }
    }

    /** The batch that is roasting or cooling; while the roaster is empty, nobody asks for it. */
    private static final class Beans {
        int temperature = 0;
        int mass = 0;
        int age = 0;
        int loss = 0;
        int pops = 0;
        // The pops of the latest ticks, each at its age modulo WINDOW; the age 0 has none.
        final int[] recentPops = new int[WINDOW];
        int crackAt = NONE;
        int endedAt = NONE;
        int hottest = 0;

        void copyFrom(Beans other) {
            temperature = other.temperature;
            mass = other.mass;
            age = other.age;
            loss = other.loss;
            pops = other.pops;
            copyRow(other.recentPops, recentPops);
            crackAt = other.crackAt;
            endedAt = other.endedAt;
            hottest = other.hottest;
        }

        void start(int newMass, int ambient) {
            temperature = ambient;
            mass = newMass;
            age = 0;
            loss = 0;
            pops = 0;
            for (int k = 0; k < WINDOW; k++) {
                put(recentPops, k, 0);
            }
            crackAt = NONE;
            endedAt = NONE;
            hottest = ambient;
        }

        void roast(int drum) {
            temperature += Math.floorDiv(drum - temperature, 20);
            hottest = Math.max(hottest, temperature);
        }

        void cool(int ambient, int fan) {
            temperature -= Math.floorDiv((temperature - ambient) * fan, 100);
        }

        void pop(int crackTemperature) {
            int popping = 0;
            if (temperature >= crackTemperature) {
                int wanted = Math.floorDiv(temperature - crackTemperature, 2) + 1;
                popping = Math.min(wanted, MAX_POPS - pops);
            }
            put(recentPops, Math.floorMod(age, WINDOW), popping);
            pops += popping;
        }

        void lookForCrack(int threshold) {
            boolean loud = window() >= threshold;
            if (crackAt == NONE && loud) {
                crackAt = age;
            } else if (crackAt != NONE && endedAt == NONE && !loud) {
                endedAt = age;
            }
        }

        int window() {
            int window = 0;
            for (int k = 0; k < WINDOW; k++) {
                window += at(recentPops, k);
            }
            return window;
        }

        int number(int what) {
            switch (what) {
                case 0: return temperature;
                case 1: return mass;
                case 2: return age;
                case 3: return loss;
                case 4: return pops;
                case 5: return at(recentPops, Math.floorMod(age, WINDOW));
                case 6: return window();
                case 7: return crackAt;
                case 8: return endedAt;
                case 9: return hottest;
                default: return INVALID_ARGUMENT;
            }
        }
    }

    /** Values in ascending order of their keys; the profile and the table of losses are both such rows. */
    private static final class SortedRows {
        final int[] keys;
        final int[] values;
        int size = 0;

        SortedRows(int capacity) {
            keys = new int[Math.max(capacity, 0)];
            values = new int[Math.max(capacity, 0)];
        }

        void copyFrom(SortedRows other) {
            copyRow(other.keys, keys);
            copyRow(other.values, values);
            size = Math.min(other.size, keys.length);
        }

        /** The index of the greatest key that is not above this one, or -1. */
        int indexBelow(int key) {
            int index = -1;
            for (int k = 0; k < size && at(keys, k) <= key; k++) {
                index = k;
            }
            return index;
        }

        boolean has(int key) {
            int index = indexBelow(key);
            return index >= 0 && at(keys, index) == key;
        }

        boolean hasRoomFor(int key) {
            return size < keys.length || has(key);
        }

        void set(int key, int value) {
            int index = indexBelow(key);
            if (index >= 0 && at(keys, index) == key) {
                put(values, index, value);
            } else if (size < keys.length) {
                insert(index + 1, key, value);
            }
        }

        private void insert(int index, int key, int value) {
            for (int k = size; k > index; k--) {
                put(keys, k, at(keys, k - 1));
                put(values, k, at(values, k - 1));
            }
            put(keys, index, key);
            put(values, index, value);
            size++;
        }

        void remove(int key) {
            if (!has(key)) {
                return;
            }
            for (int k = indexBelow(key); k < size - 1; k++) {
                put(keys, k, at(keys, k + 1));
                put(values, k, at(values, k + 1));
            }
            size--;
        }

        /** The value at the greatest key that is not above this one; 0 if there is none. */
        int valueBelow(int key) {
            int index = indexBelow(key);
            return index < 0 ? 0 : at(values, index);
        }

        /** The value on the lines between the rows, level before the first and after the last. */
        int valueOnLine(int key) {
            int index = indexBelow(key);
            if (index < 0) {
                return at(values, 0);
            }
            int value = at(values, index);
            if (index >= size - 1) {
                return value;
            }
            int rise = at(values, index + 1) - value;
            int width = at(keys, index + 1) - at(keys, index);
            return value + (int) quotient(rise * (key - at(keys, index)), width);
        }
    }

    /** The latest batches that were dropped, the latest one first. */
    private static final class Log {
        final int[] entries = new int[LOGGED_BATCHES * PROPERTIES];
        int size = 0;
        int dropped = 0;

        void copyFrom(Log other) {
            copyRow(other.entries, entries);
            size = other.size;
            dropped = other.dropped;
        }

        void enter(Beans beans) {
            for (int k = entries.length - 1; k >= PROPERTIES; k--) {
                put(entries, k, at(entries, k - PROPERTIES));
            }
            dropped++;
            size = Math.min(size + 1, LOGGED_BATCHES);
            put(entries, 0, dropped);
            put(entries, 1, beans.age);
            put(entries, 2, beans.crackAt);
            put(entries, 3, beans.endedAt);
            put(entries, 4, beans.loss);
            put(entries, 5, beans.hottest);
        }

        int property(int index, int what) {
            return at(entries, index * PROPERTIES + what);
        }

        /** The drift of a property, or NONE. */
        int slope(int what) {
            long n = 0;
            long sumX = 0;
            long sumV = 0;
            long sumXV = 0;
            long sumXX = 0;
            for (int k = 0; k < LOGGED_BATCHES && k < size; k++) {
                long x = property(k, 0);
                long v = property(k, what);
                if (v != NONE) {
                    n++;
                    sumX += x;
                    sumV += v;
                    sumXV += x * v;
                    sumXX += x * x;
                }
            }
            if (n < 2) {
                return NONE;
            }
            return (int) quotient(100 * (n * sumXV - sumX * sumV), n * sumXX - sumX * sumX);
        }
    }

    /** The latest states, in a ring of objects that are made once and written over. */
    private static final class History {
        final State[] states = new State[STATES];
        int oldest = 0;
        int size = 0;

        History() {
            for (int k = 0; k < states.length; k++) {
                states[k] = new State();
            }
        }

        void remember(State state) {
            if (size == STATES) {
                oldest++;
                size--;
            }
            State slot = slot(size);
            if (slot != null) {
                slot.copyFrom(state);
                size++;
            }
        }

        void restore(State state) {
            State slot = slot(size - 1);
            if (slot != null) {
                state.copyFrom(slot);
                size--;
            }
        }

        private State slot(int steps) {
            int index = Math.floorMod(oldest + steps, STATES);
            return index >= 0 && index < states.length ? states[index] : null;
        }
    }

    /** The text that append() lengthens. */
    private static final class Text {
        final int[] characters = new int[TEXT_LENGTH];
        int length = 0;

        void add(int character) {
            if (length < TEXT_LENGTH) {
                put(characters, length, character);
                length++;
            }
        }

        int character(int offset) {
            return offset < length ? at(characters, offset) : 0;
        }

        boolean isDigit(int offset) {
            return inRange(character(offset), '0', '9');
        }

        int afterSpaces(int offset) {
            int end = offset;
            for (int k = 0; k < TEXT_LENGTH && character(end) == ' '; k++) {
                end++;
            }
            return end;
        }

        int afterToken(int offset) {
            int end = offset + 1;
            for (int k = 0; k < TEXT_LENGTH && isDigit(offset) && isDigit(end); k++) {
                end++;
            }
            return end;
        }

        /** The number that this token is, no more than a limit above all ranges; -1 if it is none or has a 0 ahead. */
        int numberIn(int start, int end) {
            if (!isDigit(start) || (character(start) == '0' && end > start + 1)) {
                return -1;
            }
            int number = 0;
            for (int k = start; k < end; k++) {
                // A number can have a hundred digits: it must not wrap around into its range.
                number = Math.min(number * 10 + character(k) - '0', MAX_LOSS);
            }
            return number;
        }
    }

    /** Reads a text as a profile into points of its own, so that a text with an error changes nothing. */
    private static final class ProfileReader {
        static final int NO_ERROR = -1;
        private static final int TICK = 0;
        private static final int TEMPERATURE = 1;
        private static final int SEMICOLON = 2;

        final SortedRows points = new SortedRows(POINTS);
        private int tick = -1;

        int errorPosition(Text text) {
            points.size = 0;
            tick = -1;
            int expected = TICK;
            int start = text.afterSpaces(0);
            for (int tokens = 0; tokens < TEXT_LENGTH && start < text.length; tokens++) {
                int end = text.afterToken(start);
                if (!takes(expected, text, start, end)) {
                    return start;
                }
                expected = expected == SEMICOLON ? TICK : expected + 1;
                start = text.afterSpaces(end);
            }
            return expected == TICK ? NO_ERROR : text.length;
        }

        private boolean takes(int expected, Text text, int start, int end) {
            switch (expected) {
                case TICK: return takesTick(text.numberIn(start, end));
                case TEMPERATURE: return takesTemperature(text.numberIn(start, end));
                default: return text.character(start) == ';';
            }
        }

        private boolean takesTick(int number) {
            if (points.size >= POINTS || number <= tick || !inRange(number, 0, MAX_PROFILE_TICK)) {
                return false;
            }
            tick = number;
            return true;
        }

        private boolean takesTemperature(int number) {
            if (!inRange(number, 0, MAX_TEMPERATURE)) {
                return false;
            }
            points.set(tick, number);
            return true;
        }
    }
}
