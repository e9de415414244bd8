import java.util.NoSuchElementException;

/** Radiator valves in the rooms of a house. ../shared/DOC.md promises what each call answers. */
public final class ValveRoom {
    public static final int NONE = -1;
    public static final int PARSE_ERROR = -4;
    public static final int OPEN = 0, CLOSE = 1, COME = 2, GO = 3;

    private static final int MOST_BYTES = 500;
    private static final int BYTES_AT_ONCE = 20;
    private static final int MOST_ROOMS = 6;
    private static final int MOST_PLANS = 20;
    private static final int MOST_UNDONE = 6;
    private static final int SLOTS = 2;
    private static final int LONGEST_NAME = 6;

    private static final int DAY = 48;
    private static final int WEEK = 336;
    private static final int LONGEST_LOOK = 500;
    private static final int LONGEST_TICK = 200;
    private static final int LONGEST_OVERRIDE = 500;
    private static final int LATEST_PLAN = 9999;

    private static final int LEAST_TARGET = 50, MOST_TARGET = 300;
    private static final int TARGET_WITHOUT_PROGRAM = 200;
    private static final int COLDEST_OUTSIDE = -300, WARMEST_OUTSIDE = 400;
    private static final int WARMEST_START = 400;
    private static final int MOST_FALL = 99, MOST_HOLD = 48, MOST_SETBACK = 150;
    private static final int MOST_BAND = 50, MOST_GAIN = 50, MOST_SPEED = 100;
    private static final int MOST_POWER = 50, MOST_LOSS = 50;
    private static final int FULL_BATTERY = 9999;
    private static final int WIDE_OPEN = 100;
    private static final int WINDOW_LOSS = 10;

    private static final int PROPERTIES = 12, ROOM_NUMBERS = 11, PLAN_NUMBERS = 3;
    private static final int STEPS = 0, SEEN = 1, EXERCISES = 2, CARRIED_OUT = 3, UNMET = 4, EMPTY = 5;
    private static final int COUNTS = 6;

    /** An entry of a program is this times its tick of the day, plus its target. */
    private static final int ENTRY_TICK = 1000;

    private static final Keyword[] KEYWORDS = Keyword.values();

    private final Parser parser = new Parser();
    private int errorFound;
    private int errorPlace;
    private final StringBuilder output = new StringBuilder();
    private final House house = new House();
    /** What would be is tried here. */
    private final House trial = new House();
    /** The house ahead of each call that can be undone, the latest call last. */
    private final House[] past = new House[MOST_UNDONE];
    private int pastCount;
    private final House[] kept = new House[SLOTS];
    private final boolean[] isKept = new boolean[SLOTS];

    public ValveRoom() {
        errorPlace = NONE;
        for (int i = 0; i < past.length; i++) {
            past[i] = new House();
        }
        for (int i = 0; i < kept.length; i++) {
            kept[i] = new House();
        }
    }

    // ---- the input buffer

    public int append(int a, int b, int c, int d, int e) throws IllegalStateException {
        if (parser.length > MOST_BYTES - BYTES_AT_ONCE) {
            throw new IllegalStateException("the input buffer would be too long");
        }
        parser.putFourBytes(a);
        parser.putFourBytes(b);
        parser.putFourBytes(c);
        parser.putFourBytes(d);
        parser.putFourBytes(e);
        return parser.length;
    }

    public void truncate(int length) throws IllegalArgumentException {
        requireRange(length, 0, parser.length);
        parser.length = length;
    }

    public int load() {
        boolean right = parser.parse();
        parser.length = 0;
        errorFound = parser.failure;
        errorPlace = parser.failurePlace;
        if (!right) {
            return PARSE_ERROR;
        }
        remember();
        house.copyFrom(parser.draft);
        return house.roomCount;
    }

    public int errorCode() {
        return errorFound;
    }

    public int errorPosition() {
        return errorPlace;
    }

    public int find() {
        int number = house.numberOf(parser.text, 0, parser.length);
        parser.length = 0;
        return number;
    }

    // ---- what is

    public int property(int what) throws IllegalArgumentException {
        requireRange(what, 0, PROPERTIES - 1);
        switch (what) {
            case 0: return house.roomCount;
            case 1: return house.time;
            case 2: return house.tickOfDay();
            case 3: return house.outside;
            case 4: return house.planCount;
            case 5: return house.fall;
            case 6: return house.hold;
            case 7: return house.setback;
            case 8: return house.band;
            case 9: return house.gain;
            case 10: return house.speed;
            default: return house.exercise;
        }
    }

    public int room(int room, int what) throws IndexOutOfBoundsException, IllegalArgumentException {
        Room asked = roomAt(room);
        requireRange(what, 0, ROOM_NUMBERS - 1);
        switch (what) {
            case 0: return asked.temperature;
            case 1: return asked.valve;
            case 2: return asked.battery;
            case 3: return asked.power;
            case 4: return asked.loss;
            case 5: return asked.open ? 1 : 0;
            case 6: return asked.present ? 1 : 0;
            case 7: return asked.windowLeft;
            case 8: return asked.overrideLeft > 0 ? asked.overrideTarget : NONE;
            case 9: return asked.overrideLeft;
            default: return asked.heat;
        }
    }

    public int count(int room, int what) throws IndexOutOfBoundsException, IllegalArgumentException {
        Room asked = roomAt(room);
        requireRange(what, 0, COUNTS - 1);
        return asked.counts[what];
    }

    public int target(int room) throws IndexOutOfBoundsException {
        return house.targetOf(roomAt(room));
    }

    public int programmed(int room, int tick) throws IndexOutOfBoundsException, IllegalArgumentException {
        Room asked = roomAt(room);
        requireRange(tick, 0, DAY - 1);
        return asked.programmedAt(tick);
    }

    public int entry(int room, int index) throws IndexOutOfBoundsException, NoSuchElementException {
        Room asked = roomAt(room);
        if (index < 0 || index >= asked.entries) {
            throw new NoSuchElementException("no such entry");
        }
        return asked.program[index];
    }

    public int wanted(int room) throws IndexOutOfBoundsException {
        return house.positionWanted(roomAt(room));
    }

    public int why(int room) throws IndexOutOfBoundsException {
        Room asked = roomAt(room);
        if (asked.valve != house.positionWanted(asked)) {
            return asked.battery > 0 ? 0 : 1;
        }
        if (asked.windowLeft > 0) {
            return 2;
        }
        int missing = house.missingTo(asked);
        if (Math.abs(missing) <= house.band) {
            return 3;
        }
        return missing > 0 ? 5 : 4;
    }

    public int planned(int index, int what) throws IndexOutOfBoundsException, IllegalArgumentException {
        requirePlan(index);
        requireRange(what, 0, PLAN_NUMBERS - 1);
        switch (what) {
            case 0: return house.planTimes[index];
            case 1: return house.planRooms[index];
            default: return house.planKinds[index];
        }
    }

    // ---- what will be and what would be

    public int tempIn(int room, int ticks) throws IndexOutOfBoundsException, IllegalArgumentException {
        requireLook(room, ticks);
        startTrial();
        return tryTicks(room, ticks).temperature;
    }

    public int valveIn(int room, int ticks) throws IndexOutOfBoundsException, IllegalArgumentException {
        requireLook(room, ticks);
        startTrial();
        return tryTicks(room, ticks).valve;
    }

    public int warmIn(int room) throws IndexOutOfBoundsException {
        roomAt(room);
        startTrial();
        Room tried = trial.rooms[room];
        for (int ticks = 0; ticks <= LONGEST_LOOK; ticks++) {
            if (trial.missingTo(tried) <= 0) {
                return ticks;
            }
            trial.passTickIn(room);
        }
        return NONE;
    }

    public int emptyIn(int room) throws IndexOutOfBoundsException {
        roomAt(room);
        startTrial();
        Room tried = trial.rooms[room];
        for (int ticks = 0; ticks <= LONGEST_LOOK; ticks++) {
            if (tried.battery == 0) {
                return ticks;
            }
            trial.passTickIn(room);
        }
        return NONE;
    }

    public int exerciseIn(int room) throws IndexOutOfBoundsException {
        roomAt(room);
        return Math.floorMod(house.exercise + room - house.time - 1, WEEK) + 1;
    }

    public int lack(int room, int ticks) throws IndexOutOfBoundsException, IllegalArgumentException {
        requireLook(room, ticks);
        startTrial();
        return tryLack(room, ticks);
    }

    public int heatIn(int ticks) throws IllegalArgumentException {
        requireRange(ticks, 0, LONGEST_LOOK);
        startTrial();
        int before = trial.heatOfAll();
        for (int i = 0; i < ticks; i++) {
            trial.passTick();
        }
        return trial.heatOfAll() - before;
    }

    public int bestGain(int room) throws IndexOutOfBoundsException {
        roomAt(room);
        int best = NONE;
        int least = 0;
        for (int gain = 1; gain <= MOST_GAIN; gain++) {
            startTrial();
            trial.gain = gain;
            int tried = tryLack(room, DAY);
            if (best == NONE || tried < least) {
                best = gain;
                least = tried;
            }
        }
        return best;
    }

    public int tempIf(int room, int outside, int ticks) throws IndexOutOfBoundsException, IllegalArgumentException {
        requireLook(room, ticks);
        requireRange(outside, COLDEST_OUTSIDE, WARMEST_OUTSIDE);
        startTrial();
        trial.outside = outside;
        return tryTicks(room, ticks).temperature;
    }

    public int coldBy(int room, int ticks) throws IndexOutOfBoundsException, IllegalArgumentException {
        requireLook(room, ticks);
        startTrial();
        int asItIs = tryTicks(room, ticks).temperature;
        startTrial();
        trial.rooms[room].open = true;
        int withOpenWindow = tryTicks(room, ticks).temperature;
        return Math.max(0, asItIs - withOpenWindow);
    }

    private void startTrial() {
        trial.copyFrom(house);
    }

    private Room tryTicks(int room, int ticks) {
        for (int i = 0; i < ticks; i++) {
            trial.passTickIn(room);
        }
        return trial.rooms[room];
    }

    private int tryLack(int room, int ticks) {
        Room tried = trial.rooms[room];
        int lack = 0;
        for (int i = 0; i < ticks; i++) {
            trial.passTickIn(room);
            lack += Math.max(0, trial.missingTo(tried));
        }
        return lack;
    }

    // ---- all rooms together

    public int coldest() {
        int found = NONE;
        int least = 0;
        for (int i = 0; i < house.roomCount; i++) {
            int temperature = house.rooms[i].temperature;
            if (found == NONE || temperature < least) {
                found = i;
                least = temperature;
            }
        }
        return found;
    }

    public int farthest() {
        int found = NONE;
        int most = 0;
        for (int i = 0; i < house.roomCount; i++) {
            int difference = Math.abs(house.missingTo(house.rooms[i]));
            if (found == NONE || difference > most) {
                found = i;
                most = difference;
            }
        }
        return found;
    }

    public int weakest() {
        int found = NONE;
        int least = 0;
        for (int i = 0; i < house.roomCount; i++) {
            int battery = house.rooms[i].battery;
            if (found == NONE || battery < least) {
                found = i;
                least = battery;
            }
        }
        return found;
    }

    public int sum(int what) throws IllegalArgumentException {
        requireRange(what, 0, COUNTS - 1);
        int sum = 0;
        for (int i = 0; i < house.roomCount; i++) {
            sum += house.rooms[i].counts[what];
        }
        return sum;
    }

    public double meanTemp() {
        if (house.roomCount == 0) {
            return 0.0;
        }
        double sum = 0.0;
        for (int i = 0; i < house.roomCount; i++) {
            sum += (double) house.rooms[i].temperature;
        }
        return sum / (double) house.roomCount;
    }

    public float warmth(int room) throws IndexOutOfBoundsException {
        Room asked = roomAt(room);
        if (house.time == 0) {
            return 0.0f;
        }
        return (float) asked.heat / (100.0f * (float) house.time);
    }

    public int reckoned(int room) throws IndexOutOfBoundsException {
        return roomAt(room).battery;
    }

    // ---- changes

    public int tick(int ticks) throws IllegalArgumentException {
        requireRange(ticks, 1, LONGEST_TICK);
        remember();
        int steps = 0;
        for (int i = 0; i < ticks; i++) {
            steps += house.passTick();
        }
        return steps;
    }

    public int setProgram(int room, int tick, int target) throws IndexOutOfBoundsException, IllegalArgumentException {
        Room changed = roomAt(room);
        requireRange(tick, 0, DAY - 1);
        requireRange(target, LEAST_TARGET, MOST_TARGET);
        remember();
        int before = changed.toldAt(tick);
        changed.putEntry(tick, target);
        return before;
    }

    public int clearProgram(int room, int tick)
            throws IndexOutOfBoundsException, IllegalArgumentException, NoSuchElementException {
        Room changed = roomAt(room);
        requireRange(tick, 0, DAY - 1);
        if (changed.toldAt(tick) == NONE) {
            throw new NoSuchElementException("no entry at this tick");
        }
        remember();
        changed.removeEntry(changed.placeOf(tick));
        return changed.entries;
    }

    public int override(int room, int target, int ticks) throws IndexOutOfBoundsException, IllegalArgumentException {
        Room changed = roomAt(room);
        requireRange(target, LEAST_TARGET, MOST_TARGET);
        requireRange(ticks, 0, LONGEST_OVERRIDE);
        remember();
        changed.overrideTarget = target;
        changed.overrideLeft = ticks;
        return house.targetOf(changed);
    }

    public boolean setWindow(int room, boolean open) throws IndexOutOfBoundsException {
        Room changed = roomAt(room);
        remember();
        boolean before = changed.open;
        changed.open = open;
        return before;
    }

    public int setPresent(int room, boolean present) throws IndexOutOfBoundsException {
        Room changed = roomAt(room);
        remember();
        changed.present = present;
        return house.targetOf(changed);
    }

    public int plan(int time, int room, int kind)
            throws IndexOutOfBoundsException, IllegalArgumentException, IllegalStateException {
        roomAt(room);
        requireRange(time, house.time + 1, house.time + LATEST_PLAN);
        requireRange(kind, OPEN, GO);
        if (house.planCount >= MOST_PLANS) {
            throw new IllegalStateException("too many plans");
        }
        remember();
        return house.putPlan(time, room, kind);
    }

    public int dropPlan(int index) throws IndexOutOfBoundsException {
        requirePlan(index);
        remember();
        house.removePlans(index, 1);
        return house.planCount;
    }

    public int setOutside(int temperature) throws IllegalArgumentException {
        requireRange(temperature, COLDEST_OUTSIDE, WARMEST_OUTSIDE);
        remember();
        int before = house.outside;
        house.outside = temperature;
        return before;
    }

    public int setControl(int band, int gain, int speed) throws IllegalArgumentException {
        requireRange(band, 0, MOST_BAND);
        requireRange(gain, 1, MOST_GAIN);
        requireRange(speed, 1, MOST_SPEED);
        remember();
        int before = 100000 * house.band + 1000 * house.gain + house.speed;
        house.band = band;
        house.gain = gain;
        house.speed = speed;
        return before;
    }

    public int newBattery(int room, int charge) throws IndexOutOfBoundsException, IllegalArgumentException {
        Room changed = roomAt(room);
        requireRange(charge, 1, FULL_BATTERY);
        remember();
        int before = changed.battery;
        changed.battery = charge;
        return before;
    }

    public int turn(int room, int position) throws IndexOutOfBoundsException, IllegalArgumentException {
        Room changed = roomAt(room);
        requireRange(position, 0, WIDE_OPEN);
        remember();
        int before = changed.valve;
        changed.valve = position;
        return before;
    }

    // ---- slots and undo

    public int keep(int slot) throws IndexOutOfBoundsException {
        requireSlot(slot);
        kept[slot].copyFrom(house);
        isKept[slot] = true;
        return house.time;
    }

    public int restore(int slot) throws IndexOutOfBoundsException, IllegalStateException {
        requireSlot(slot);
        if (!isKept[slot]) {
            throw new IllegalStateException("nothing is kept there");
        }
        remember();
        house.copyFrom(kept[slot]);
        return house.time;
    }

    public int undo() throws IllegalStateException {
        if (pastCount <= 0) {
            throw new IllegalStateException("nothing to undo");
        }
        pastCount--;
        house.copyFrom(past[pastCount]);
        return pastCount;
    }

    public int undoCount() {
        return pastCount;
    }

    /** Every change calls this when it can no longer throw, and before it changes anything. */
    private void remember() {
        if (pastCount >= MOST_UNDONE) {
            forgetOldest();
        }
        past[pastCount].copyFrom(house);
        pastCount++;
    }

    private void forgetOldest() {
        House oldest = past[0];
        for (int i = 1; i < past.length; i++) {
            past[i - 1] = past[i];
        }
        past[past.length - 1] = oldest;
        pastCount--;
    }

    // ---- the output buffer

    public int writeRooms() {
        output.setLength(0);
        for (int i = 0; i < house.roomCount; i++) {
            if (i > 0) {
                output.append(' ');
            }
            writeOneRoom(house.rooms[i]);
        }
        return output.length();
    }

    private void writeOneRoom(Room written) {
        output.append(written.name).append(':').append(written.temperature);
        output.append('>').append(house.targetOf(written));
        output.append('/').append(written.valve);
        if (written.open) {
            output.append('w');
        }
        if (!written.present) {
            output.append('n');
        }
        if (written.windowLeft > 0) {
            output.append('m');
        }
    }

    public int writeProgram(int room) throws IndexOutOfBoundsException {
        Room written = roomAt(room);
        output.setLength(0);
        for (int i = 0; i < written.entries; i++) {
            if (i > 0) {
                output.append(',');
            }
            output.append(written.program[i] / ENTRY_TICK).append(':').append(written.program[i] % ENTRY_TICK);
        }
        return output.length();
    }

    public int writePlans() {
        output.setLength(0);
        for (int i = 0; i < house.planCount; i++) {
            if (i > 0) {
                output.append(' ');
            }
            output.append(house.planTimes[i]).append('@').append(house.planRooms[i]);
            output.append(signOf(house.planKinds[i]));
        }
        return output.length();
    }

    private static char signOf(int kind) {
        switch (kind) {
            case OPEN: return 'o';
            case CLOSE: return 'c';
            case COME: return '+';
            default: return '-';
        }
    }

    public int outputByte(int index) throws NoSuchElementException {
        if (index < 0 || index >= output.length()) {
            throw new NoSuchElementException("no such byte");
        }
        return output.charAt(index);
    }

    // ---- what calls may ask for

    private Room roomAt(int room) {
        if (room < 0 || room >= house.roomCount) {
            throw new IndexOutOfBoundsException("no such room");
        }
        return house.rooms[room];
    }

    private void requireLook(int room, int ticks) {
        roomAt(room);
        requireRange(ticks, 0, LONGEST_LOOK);
    }

    private void requirePlan(int index) {
        if (index < 0 || index >= house.planCount) {
            throw new IndexOutOfBoundsException("no such plan");
        }
    }

    private static void requireSlot(int slot) {
        if (slot < 0 || slot >= SLOTS) {
            throw new IndexOutOfBoundsException("no such slot");
        }
    }

    private static void requireRange(int value, int least, int most) {
        if (value < least || value > most) {
            throw new IllegalArgumentException("out of range");
        }
    }

    private static boolean spells(byte[] bytes, int from, int length, String word) {
        if (length != word.length() || from < 0 || from > bytes.length - length) {
            return false;
        }
        for (int i = 0; i < length; i++) {
            if (bytes[from + i] != word.charAt(i)) {
                return false;
            }
        }
        return true;
    }

    /** A room with its valve and its program. */
    private static final class Room {
        String name = "";
        int temperature;
        int valve;
        int battery;
        int power;
        int loss;
        boolean open;
        boolean present;
        int windowLeft;
        /** Means nothing when no ticks of the override are left. */
        int overrideTarget;
        int overrideLeft;
        int heat;
        final int[] counts = new int[COUNTS];
        /** The entries, by the ticks of the day. */
        final int[] program = new int[DAY];
        int entries;

        void copyFrom(Room other) {
            name = other.name;
            temperature = other.temperature;
            valve = other.valve;
            battery = other.battery;
            power = other.power;
            loss = other.loss;
            open = other.open;
            present = other.present;
            windowLeft = other.windowLeft;
            overrideTarget = other.overrideTarget;
            overrideLeft = other.overrideLeft;
            heat = other.heat;
            System.arraycopy(other.counts, 0, counts, 0, COUNTS);
            System.arraycopy(other.program, 0, program, 0, DAY);
            entries = other.entries;
        }

        /** All that no statement tells of a new room. */
        void startAs(String newName) {
            name = newName;
            open = false;
            present = true;
            windowLeft = 0;
            overrideTarget = 0;
            overrideLeft = 0;
            heat = 0;
            entries = 0;
            for (int i = 0; i < counts.length; i++) {
                counts[i] = 0;
            }
        }

        /** Where the entry of this tick stands, or would have to stand. */
        int placeOf(int tick) {
            int place = 0;
            while (place < entries && program[place] < tick * ENTRY_TICK) {
                place++;
            }
            return place;
        }

        private boolean isEntryOf(int tick, int place) {
            return place < entries && program[place] / ENTRY_TICK == tick;
        }

        /** The target that is told for just this tick; NONE if there is none. */
        int toldAt(int tick) {
            int place = placeOf(tick);
            return isEntryOf(tick, place) ? program[place] % ENTRY_TICK : NONE;
        }

        int programmedAt(int tick) {
            if (entries == 0) {
                return TARGET_WITHOUT_PROGRAM;
            }
            for (int i = entries - 1; i >= 0; i--) {
                if (program[i] < (tick + 1) * ENTRY_TICK) {
                    return program[i] % ENTRY_TICK;
                }
            }
            return program[entries - 1] % ENTRY_TICK;
        }

        void putEntry(int tick, int target) {
            int place = placeOf(tick);
            if (!isEntryOf(tick, place)) {
                // A full program has each tick already, so there is space for a new one.
                for (int i = entries; i > place; i--) {
                    program[i] = program[i - 1];
                }
                entries++;
            }
            program[place] = tick * ENTRY_TICK + target;
        }

        void removeEntry(int place) {
            entries--;
            for (int i = place; i < entries; i++) {
                program[i] = program[i + 1];
            }
        }

        int drive(int position, int mostSteps) {
            int steps = Math.min(Math.min(Math.abs(position - valve), mostSteps), battery);
            valve += position > valve ? steps : -steps;
            battery -= steps;
            counts[STEPS] += steps;
            return steps;
        }

        int driveForExercise() {
            int before = valve;
            int steps = drive(WIDE_OPEN, WIDE_OPEN);
            steps += drive(0, WIDE_OPEN);
            steps += drive(before, WIDE_OPEN);
            counts[EXERCISES]++;
            return steps;
        }
    }

    /** All that undo() restores, but what can be undone. */
    private static final class House {
        int time;
        int outside;
        int fall;
        int hold;
        int setback;
        int band;
        int gain;
        int speed;
        int exercise;
        int roomCount;
        final Room[] rooms = new Room[MOST_ROOMS];
        int planCount;
        /** Plans stand in the order in which they are carried out. */
        final int[] planTimes = new int[MOST_PLANS];
        final int[] planRooms = new int[MOST_PLANS];
        final int[] planKinds = new int[MOST_PLANS];

        House() {
            for (int i = 0; i < rooms.length; i++) {
                rooms[i] = new Room();
            }
            empty();
        }

        void empty() {
            time = 0;
            outside = 50;
            fall = 8;
            hold = 3;
            setback = 30;
            band = 3;
            gain = 5;
            speed = 20;
            exercise = 100;
            roomCount = 0;
            planCount = 0;
        }

        void copyFrom(House other) {
            time = other.time;
            outside = other.outside;
            fall = other.fall;
            hold = other.hold;
            setback = other.setback;
            band = other.band;
            gain = other.gain;
            speed = other.speed;
            exercise = other.exercise;
            roomCount = other.roomCount;
            for (int i = 0; i < roomCount; i++) {
                rooms[i].copyFrom(other.rooms[i]);
            }
            planCount = other.planCount;
            System.arraycopy(other.planTimes, 0, planTimes, 0, MOST_PLANS);
            System.arraycopy(other.planRooms, 0, planRooms, 0, MOST_PLANS);
            System.arraycopy(other.planKinds, 0, planKinds, 0, MOST_PLANS);
        }

        int numberOf(byte[] bytes, int from, int length) {
            for (int i = 0; i < roomCount; i++) {
                if (spells(bytes, from, length, rooms[i].name)) {
                    return i;
                }
            }
            return NONE;
        }

        int tickOfDay() {
            return time % DAY;
        }

        int targetOf(Room asked) {
            if (asked.overrideLeft > 0) {
                return asked.overrideTarget;
            }
            int target = asked.programmedAt(tickOfDay());
            return asked.present ? target : target - setback;
        }

        /** What its temperature is below its target; less than 0 if it is above. */
        int missingTo(Room asked) {
            return targetOf(asked) - asked.temperature;
        }

        int positionWanted(Room asked) {
            if (asked.windowLeft > 0) {
                return 0;
            }
            int missing = targetOf(asked) - asked.temperature;
            if (Math.abs(missing) <= band) {
                return asked.valve;
            }
            return Math.max(0, Math.min(WIDE_OPEN, gain * missing));
        }

        int heatOfAll() {
            int heat = 0;
            for (int i = 0; i < roomCount; i++) {
                heat += rooms[i].heat;
            }
            return heat;
        }

        /** Whoever calls this has looked whether there is space for a plan more. */
        int putPlan(int planTime, int planRoom, int planKind) {
            int index = planCount;
            while (index > 0 && planTimes[index - 1] > planTime) {
                movePlan(index - 1, index);
                index--;
            }
            planTimes[index] = planTime;
            planRooms[index] = planRoom;
            planKinds[index] = planKind;
            planCount++;
            return index;
        }

        void removePlans(int first, int many) {
            for (int i = first + many; i < planCount; i++) {
                movePlan(i, i - many);
            }
            planCount -= many;
        }

        private void movePlan(int from, int to) {
            planTimes[to] = planTimes[from];
            planRooms[to] = planRooms[from];
            planKinds[to] = planKinds[from];
        }

        /** Returns the steps by which all valves were driven. */
        int passTick() {
            startTick();
            int steps = 0;
            for (int i = 0; i < roomCount; i++) {
                steps += live(rooms[i], i);
            }
            return steps;
        }

        /** As passTick(), but the other rooms stand still: no room acts on another. */
        void passTickIn(int number) {
            startTick();
            live(rooms[number], number);
        }

        private void startTick() {
            time++;
            int due = 0;
            while (due < planCount && planTimes[due] == time) {
                carryOut(rooms[planRooms[due]], planKinds[due]);
                due++;
            }
            removePlans(0, due);
        }

        private void carryOut(Room where, int kind) {
            switch (kind) {
                case OPEN: where.open = true; break;
                case CLOSE: where.open = false; break;
                case COME: where.present = true; break;
                default: where.present = false; break;
            }
            where.counts[CARRIED_OUT]++;
        }

        private int live(Room living, int number) {
            changeTemperature(living);
            if (living.overrideLeft > 0) {
                living.overrideLeft--;
            }
            int steps = 0;
            if (Math.floorMod(time - number, WEEK) == exercise) {
                steps += living.driveForExercise();
            }
            // Asked once, as within the band the wish is the position ahead of the driving.
            int position = positionWanted(living);
            steps += living.drive(position, speed);
            if (living.valve != position) {
                living.counts[UNMET]++;
            }
            if (living.battery == 0) {
                living.counts[EMPTY]++;
            }
            living.heat += living.valve;
            return steps;
        }

        private void changeTemperature(Room living) {
            int before = living.temperature;
            int loss = living.loss + (living.open ? WINDOW_LOSS : 0);
            int warmer = Math.floorDiv(living.valve * living.power, 100);
            int colder = Math.floorDiv(loss * (before - outside), 100);
            living.temperature = before + warmer - colder;
            if (before - living.temperature >= fall) {
                living.windowLeft = hold;
                living.counts[SEEN]++;
            } else if (living.windowLeft > 0) {
                living.windowLeft--;
            }
        }
    }

    /** The words that no room may bear as its name. */
    private enum Keyword {
        OUTSIDE("outside"), WINDOW("window"), HOLD("hold"), BACK("back"), CONTROL("control"),
        EXERCISE("exercise"), ROOM("room"), TEMP("temp"), POWER("power"), LOSS("loss"),
        VALVE("valve"), BATTERY("battery"), PROGRAM("program"), PLAN("plan"),
        OPEN("open"), CLOSE("close"), COME("come"), GO("go");

        final String spelling;

        Keyword(String spelling) {
            this.spelling = spelling;
        }
    }

    /** The tokens of a text, the last of them its end. */
    private static final class Tokens {
        static final int BLANK = 0, WORD = 1, NUMBER = 2, SYMBOL = 3, END = 4;
        /** Above each range, so that a number of any length may stop growing here. */
        private static final int TOO_LARGE = 100000;

        int count;
        final int[] kinds = new int[MOST_BYTES + 1];
        final int[] starts = new int[MOST_BYTES + 1];
        final int[] lengths = new int[MOST_BYTES + 1];
        /** What a number tells, or the byte of a symbol. */
        final int[] values = new int[MOST_BYTES + 1];
        /** Which keyword a word is; null if it is none. */
        final Keyword[] keywords = new Keyword[MOST_BYTES + 1];

        void read(byte[] text, int textLength) {
            count = 0;
            int previous = BLANK;
            for (int i = 0; i < textLength; i++) {
                int kind = kindOf(text[i]);
                if (kind != BLANK) {
                    if (kind != previous || kind == SYMBOL) {
                        begin(kind, i);
                    }
                    extend(text[i]);
                }
                previous = kind;
            }
            begin(END, textLength);
            for (int i = 0; i < count; i++) {
                keywords[i] = kinds[i] == WORD ? keywordAt(text, starts[i], lengths[i]) : null;
            }
        }

        private static int kindOf(byte sign) {
            if (sign == ' ' || sign == '\n') {
                return BLANK;
            }
            if (sign >= 'a' && sign <= 'z') {
                return WORD;
            }
            return sign >= '0' && sign <= '9' ? NUMBER : SYMBOL;
        }

        private void begin(int kind, int start) {
            kinds[count] = kind;
            starts[count] = start;
            lengths[count] = 0;
            values[count] = 0;
            count++;
        }

        private void extend(byte sign) {
            int last = count - 1;
            lengths[last]++;
            if (kinds[last] == NUMBER) {
                values[last] = Math.min(values[last] * 10 + (sign - '0'), TOO_LARGE);
            } else {
                values[last] = sign;
            }
        }

        private static Keyword keywordAt(byte[] text, int start, int length) {
            for (Keyword word : KEYWORDS) {
                if (spells(text, start, length, word.spelling)) {
                    return word;
                }
            }
            return null;
        }
    }

    /**
     * Holds the input buffer and reads it, token by token, into a draft of a house. Each take..() passes what it
     * takes, or tells an error at the token where it stands and answers false.
     */
    private static final class Parser {
        private static final int MISPLACED = 1, OUT_OF_RANGE = 2, TOLD_AGAIN = 3, UNKNOWN = 4, TOO_MANY = 5;
        private static final int OUTSIDE_TOLD = 1, WINDOW_TOLD = 2, BACK_TOLD = 4, CONTROL_TOLD = 8, EXERCISE_TOLD = 16;

        final byte[] text = new byte[MOST_BYTES];
        int length;
        final House draft = new House();
        int failure;
        int failurePlace;
        private final Tokens tokens = new Tokens();
        /** The token that is next. */
        private int at;
        /** The number that was taken last. */
        private int number;
        /** Which of the statements that come at most once have come. */
        private int toldOnce;

        void putFourBytes(int bytes) {
            for (int shift = 24; shift >= 0 && length < text.length; shift -= 8) {
                text[length] = (byte) (bytes >> shift);
                length++;
            }
        }

        boolean parse() {
            tokens.read(text, length);
            at = 0;
            toldOnce = 0;
            failure = 0;
            failurePlace = NONE;
            draft.empty();
            if (isAtEnd()) {
                return fail(MISPLACED);
            }
            for (int i = 0; i < tokens.count && !isAtEnd(); i++) {
                if (!takeStatement() || !takeSymbol(';')) {
                    return false;
                }
            }
            return true;
        }

        private boolean fail(int code) {
            failure = code;
            failurePlace = tokens.starts[at];
            return false;
        }

        /** The end of the text is never passed. */
        private void pass() {
            if (at < tokens.count - 1) {
                at++;
            }
        }

        private boolean isAtEnd() {
            return tokens.kinds[at] == Tokens.END;
        }

        private boolean isSymbol(char symbol) {
            return tokens.kinds[at] == Tokens.SYMBOL && tokens.values[at] == symbol;
        }

        private boolean isKeyword(Keyword word) {
            return tokens.keywords[at] == word;
        }

        private boolean isName() {
            return tokens.kinds[at] == Tokens.WORD && tokens.lengths[at] <= LONGEST_NAME
                    && tokens.keywords[at] == null;
        }

        private boolean takeSymbol(char symbol) {
            if (!isSymbol(symbol)) {
                return fail(MISPLACED);
            }
            pass();
            return true;
        }

        private boolean takeKeyword(Keyword word) {
            if (!isKeyword(word)) {
                return fail(MISPLACED);
            }
            pass();
            return true;
        }

        private boolean takeNumber(int least, int most) {
            if (tokens.kinds[at] != Tokens.NUMBER) {
                return fail(MISPLACED);
            }
            int value = tokens.values[at];
            if (value < least || value > most) {
                return fail(OUT_OF_RANGE);
            }
            number = value;
            pass();
            return true;
        }

        /** Takes a word and its number, or, without the word, what the number is then. */
        private boolean takeOption(Keyword word, int least, int most, int without) {
            if (isKeyword(word)) {
                pass();
                return takeNumber(least, most);
            }
            number = without;
            return true;
        }

        private boolean takeStatement() {
            Keyword word = tokens.keywords[at];
            if (word == null) {
                return fail(MISPLACED);
            }
            switch (word) {
                case OUTSIDE: return takeOnce(OUTSIDE_TOLD) && takeOutside();
                case WINDOW: return takeOnce(WINDOW_TOLD) && takeWindow();
                case BACK: return takeOnce(BACK_TOLD) && takeBack();
                case CONTROL: return takeOnce(CONTROL_TOLD) && takeControl();
                case EXERCISE: return takeOnce(EXERCISE_TOLD) && takeExercise();
                case ROOM: return takeNewRoom() && takeFittings(draft.rooms[draft.roomCount - 1]);
                case PROGRAM: return takeProgram();
                case PLAN: return takePlan();
                default: return fail(MISPLACED);
            }
        }

        /** Takes the word of a statement that comes at most once. */
        private boolean takeOnce(int bit) {
            if ((toldOnce & bit) != 0) {
                return fail(TOLD_AGAIN);
            }
            toldOnce |= bit;
            pass();
            return true;
        }

        private boolean takeOutside() {
            boolean below = isSymbol('-');
            if (below) {
                pass();
            }
            if (!takeNumber(0, below ? -COLDEST_OUTSIDE : WARMEST_OUTSIDE)) {
                return false;
            }
            draft.outside = below ? -number : number;
            return true;
        }

        private boolean takeWindow() {
            if (!takeNumber(1, MOST_FALL)) {
                return false;
            }
            draft.fall = number;
            if (!takeKeyword(Keyword.HOLD) || !takeNumber(1, MOST_HOLD)) {
                return false;
            }
            draft.hold = number;
            return true;
        }

        private boolean takeBack() {
            if (!takeNumber(0, MOST_SETBACK)) {
                return false;
            }
            draft.setback = number;
            return true;
        }

        private boolean takeControl() {
            if (!takeNumber(0, MOST_BAND)) {
                return false;
            }
            draft.band = number;
            if (!takeNumber(1, MOST_GAIN)) {
                return false;
            }
            draft.gain = number;
            if (!takeNumber(1, MOST_SPEED)) {
                return false;
            }
            draft.speed = number;
            return true;
        }

        private boolean takeExercise() {
            if (!takeNumber(0, WEEK - 1)) {
                return false;
            }
            draft.exercise = number;
            return true;
        }

        /** Takes the word and the name of a room, and leaves the room as the last of the draft. */
        private boolean takeNewRoom() {
            if (draft.roomCount >= MOST_ROOMS) {
                return fail(TOO_MANY);
            }
            pass();
            if (!isName()) {
                return fail(MISPLACED);
            }
            if (draft.numberOf(text, tokens.starts[at], tokens.lengths[at]) != NONE) {
                return fail(TOLD_AGAIN);
            }
            draft.rooms[draft.roomCount].startAs(wordHere());
            draft.roomCount++;
            pass();
            return true;
        }

        private boolean takeFittings(Room newRoom) {
            if (!takeKeyword(Keyword.TEMP) || !takeNumber(0, WARMEST_START)) {
                return false;
            }
            newRoom.temperature = number;
            if (!takeOption(Keyword.POWER, 1, MOST_POWER, 10)) {
                return false;
            }
            newRoom.power = number;
            if (!takeOption(Keyword.LOSS, 0, MOST_LOSS, 4)) {
                return false;
            }
            newRoom.loss = number;
            if (!takeOption(Keyword.VALVE, 0, WIDE_OPEN, 0)) {
                return false;
            }
            newRoom.valve = number;
            if (!takeOption(Keyword.BATTERY, 0, FULL_BATTERY, 1000)) {
                return false;
            }
            newRoom.battery = number;
            return true;
        }

        private String wordHere() {
            char[] letters = new char[tokens.lengths[at]];
            for (int i = 0; i < letters.length; i++) {
                letters[i] = (char) text[tokens.starts[at] + i];
            }
            return new String(letters);
        }

        /** The room told ahead that is named here; NONE, and an error is told, if there is none. */
        private int knownRoomHere() {
            if (!isName()) {
                fail(MISPLACED);
                return NONE;
            }
            int found = draft.numberOf(text, tokens.starts[at], tokens.lengths[at]);
            if (found == NONE) {
                fail(UNKNOWN);
            }
            return found;
        }

        private boolean takeProgram() {
            pass();
            int found = knownRoomHere();
            if (found == NONE) {
                return false;
            }
            Room told = draft.rooms[found];
            if (told.entries > 0) {
                return fail(TOLD_AGAIN);
            }
            pass();
            boolean more = true;
            for (int i = 0; i < tokens.count && more; i++) {
                if (!takeEntry(told)) {
                    return false;
                }
                more = isSymbol(',');
                if (more) {
                    pass();
                }
            }
            return true;
        }

        private boolean takeEntry(Room told) {
            if (tokens.kinds[at] == Tokens.NUMBER && told.toldAt(tokens.values[at]) != NONE) {
                return fail(TOLD_AGAIN);
            }
            if (!takeNumber(0, DAY - 1)) {
                return false;
            }
            int tick = number;
            if (!takeSymbol(':') || !takeNumber(LEAST_TARGET, MOST_TARGET)) {
                return false;
            }
            told.putEntry(tick, number);
            return true;
        }

        private boolean takePlan() {
            if (draft.planCount >= MOST_PLANS) {
                return fail(TOO_MANY);
            }
            pass();
            if (!takeNumber(1, LATEST_PLAN)) {
                return false;
            }
            int planTime = number;
            int planRoom = knownRoomHere();
            if (planRoom == NONE) {
                return false;
            }
            pass();
            int planKind = planKindHere();
            if (planKind == NONE) {
                return fail(MISPLACED);
            }
            pass();
            draft.putPlan(planTime, planRoom, planKind);
            return true;
        }

        private int planKindHere() {
            if (isKeyword(Keyword.OPEN)) {
                return OPEN;
            }
            if (isKeyword(Keyword.CLOSE)) {
                return CLOSE;
            }
            if (isKeyword(Keyword.COME)) {
                return COME;
            }
            return isKeyword(Keyword.GO) ? GO : NONE;
        }
    }
}
