import java.math.BigInteger;
import java.nio.charset.StandardCharsets;
import java.util.ArrayList;
import java.util.HashSet;
import java.util.List;
import java.util.NoSuchElementException;
import java.util.Set;
import java.util.TreeMap;
import java.util.regex.Matcher;
import java.util.regex.Pattern;

/**
 * The document once more, written without regard to speed or memory and apart from the class: lists and maps instead
 * of arrays, a copy of everything for each question, valves that move step by step. ModelTest compares the two.
 */
final class Model {
    private static final class Plan {
        final int time;
        final int room;
        final String kind;

        Plan(int time, int room, String kind) {
            this.time = time;
            this.room = room;
            this.kind = kind;
        }
    }

    private static final class Room implements Cloneable {
        String name;
        int temperature;
        int power = 10;
        int loss = 4;
        int valve = 0;
        int battery = 1000;
        boolean open = false;
        boolean present = true;
        int windowMode = 0;
        Integer override = null;
        int overrideTicks = 0;
        int heat = 0;
        int[] counts = new int[6];
        TreeMap<Integer, Integer> program = new TreeMap<>();

        Room copy() {
            try {
                Room copy = (Room) clone();
                copy.counts = counts.clone();
                copy.program = new TreeMap<>(program);
                return copy;
            } catch (CloneNotSupportedException e) {
                throw new AssertionError(e);
            }
        }

        int told(int tick) {
            if (program.isEmpty()) {
                return 200;
            }
            Integer at = program.floorKey(tick);
            return program.get(at == null ? program.lastKey() : at);
        }

        int driveTo(int position, int steps) {
            int made = 0;
            while (valve != position && made < steps && battery > 0) {
                valve += valve < position ? 1 : -1;
                battery--;
                made++;
                counts[0]++;
            }
            return made;
        }
    }

    private static final class State {
        int time = 0;
        int outside = 50;
        int fall = 8;
        int hold = 3;
        int setback = 30;
        int band = 3;
        int gain = 5;
        int speed = 20;
        int exercise = 100;
        List<Room> rooms = new ArrayList<>();
        List<Plan> plans = new ArrayList<>();

        State copy() {
            State copy = new State();
            copy.time = time;
            copy.outside = outside;
            copy.fall = fall;
            copy.hold = hold;
            copy.setback = setback;
            copy.band = band;
            copy.gain = gain;
            copy.speed = speed;
            copy.exercise = exercise;
            for (Room room : rooms) {
                copy.rooms.add(room.copy());
            }
            copy.plans.addAll(plans);
            return copy;
        }

        int target(Room room) {
            if (room.override != null) {
                return room.override;
            }
            return room.told(time % 48) - (room.present ? 0 : setback);
        }

        int wanted(Room room) {
            if (room.windowMode > 0) {
                return 0;
            }
            int difference = target(room) - room.temperature;
            if (-band <= difference && difference <= band) {
                return room.valve;
            }
            int position = gain * difference;
            return position < 0 ? 0 : position > 100 ? 100 : position;
        }

        int tick() {
            time++;
            List<Plan> left = new ArrayList<>();
            for (Plan plan : plans) {
                if (plan.time == time) {
                    carryOut(plan);
                } else {
                    left.add(plan);
                }
            }
            plans = left;
            int steps = 0;
            for (int number = 0; number < rooms.size(); number++) {
                steps += pass(rooms.get(number), number);
            }
            return steps;
        }

        void carryOut(Plan plan) {
            Room room = rooms.get(plan.room);
            room.counts[3]++;
            if (plan.kind.equals("open") || plan.kind.equals("close")) {
                room.open = plan.kind.equals("open");
            } else {
                room.present = plan.kind.equals("come");
            }
        }

        int pass(Room room, int number) {
            int before = room.temperature;
            int up = (int) Math.floor(room.valve * room.power / 100.0);
            int down = (int) Math.floor((room.loss + (room.open ? 10 : 0)) * (before - outside) / 100.0);
            room.temperature = before + up - down;
            if (before - room.temperature >= fall) {
                room.windowMode = hold;
                room.counts[1]++;
            } else if (room.windowMode > 0) {
                room.windowMode--;
            }
            if (room.override != null) {
                room.overrideTicks--;
                if (room.overrideTicks == 0) {
                    room.override = null;
                }
            }
            int steps = 0;
            if (((time - number) % 336 + 336) % 336 == exercise) {
                int there = room.valve;
                steps += room.driveTo(100, 100) + room.driveTo(0, 100) + room.driveTo(there, 100);
                room.counts[2]++;
            }
            steps += room.driveTo(wanted(room), speed);
            if (room.valve != wanted(room)) {
                room.counts[4]++;
            }
            if (room.battery == 0) {
                room.counts[5]++;
            }
            room.heat += room.valve;
            return steps;
        }
    }

    /** What is wrong with a text, and where. */
    private static final class Wrong extends Exception {
        private static final long serialVersionUID = 1L;
        final int code;
        final int place;

        Wrong(int code, int place) {
            this.code = code;
            this.place = place;
        }
    }

    private static final class Reader {
        private static final Set<String> KEYWORDS = Set.of("outside", "window", "hold", "back", "control", "exercise",
                "room", "temp", "power", "loss", "valve", "battery", "program", "plan", "open", "close", "come", "go");

        final List<String> tokens = new ArrayList<>();
        final List<Integer> places = new ArrayList<>();
        final Set<String> seen = new HashSet<>();
        final State state = new State();
        int next = 0;

        Reader(String text) {
            Matcher matcher = Pattern.compile("[a-z]+|[0-9]+|[^ \n]", Pattern.DOTALL).matcher(text);
            while (matcher.find()) {
                tokens.add(matcher.group());
                places.add(matcher.start());
            }
            tokens.add("");
            places.add(text.length());
        }

        String token() {
            return tokens.get(next);
        }

        Wrong wrong(int code) {
            return new Wrong(code, places.get(next));
        }

        void expect(String due) throws Wrong {
            if (!token().equals(due)) {
                throw wrong(1);
            }
            next++;
        }

        boolean optional(String word) {
            if (token().equals(word)) {
                next++;
                return true;
            }
            return false;
        }

        int number(int least, int most) throws Wrong {
            if (!token().matches("[0-9]+")) {
                throw wrong(1);
            }
            BigInteger value = new BigInteger(token());
            if (value.compareTo(BigInteger.valueOf(least)) < 0 || value.compareTo(BigInteger.valueOf(most)) > 0) {
                throw wrong(2);
            }
            next++;
            return value.intValue();
        }

        String name() throws Wrong {
            if (!token().matches("[a-z]{1,6}") || KEYWORDS.contains(token())) {
                throw wrong(1);
            }
            return token();
        }

        int roomNamed(String name) {
            for (int i = 0; i < state.rooms.size(); i++) {
                if (state.rooms.get(i).name.equals(name)) {
                    return i;
                }
            }
            return -1;
        }

        int knownRoom() throws Wrong {
            int room = roomNamed(name());
            if (room < 0) {
                throw wrong(4);
            }
            return room;
        }

        State read() throws Wrong {
            do {
                statement();
                expect(";");
            } while (!token().isEmpty());
            return state;
        }

        void statement() throws Wrong {
            String word = token();
            if (word.equals("room")) {
                room();
            } else if (word.equals("program")) {
                program();
            } else if (word.equals("plan")) {
                plan();
            } else if (List.of("outside", "window", "back", "control", "exercise").contains(word)) {
                if (!seen.add(word)) {
                    throw wrong(3);
                }
                next++;
                setting(word);
            } else {
                throw wrong(1);
            }
        }

        void setting(String word) throws Wrong {
            switch (word) {
                case "outside":
                    state.outside = optional("-") ? -number(0, 300) : number(0, 400);
                    break;
                case "window":
                    state.fall = number(1, 99);
                    expect("hold");
                    state.hold = number(1, 48);
                    break;
                case "back":
                    state.setback = number(0, 150);
                    break;
                case "control":
                    state.band = number(0, 50);
                    state.gain = number(1, 50);
                    state.speed = number(1, 100);
                    break;
                default:
                    state.exercise = number(0, 335);
            }
        }

        void room() throws Wrong {
            if (state.rooms.size() == 6) {
                throw wrong(5);
            }
            next++;
            Room room = new Room();
            room.name = name();
            if (roomNamed(room.name) >= 0) {
                throw wrong(3);
            }
            next++;
            expect("temp");
            room.temperature = number(0, 400);
            room.power = optional("power") ? number(1, 50) : 10;
            room.loss = optional("loss") ? number(0, 50) : 4;
            room.valve = optional("valve") ? number(0, 100) : 0;
            room.battery = optional("battery") ? number(0, 9999) : 1000;
            state.rooms.add(room);
        }

        void program() throws Wrong {
            next++;
            Room room = state.rooms.get(knownRoom());
            if (!room.program.isEmpty()) {
                throw wrong(3);
            }
            next++;
            do {
                int tick = number(0, 47);
                if (room.program.containsKey(tick)) {
                    next--;
                    throw wrong(3);
                }
                expect(":");
                room.program.put(tick, number(50, 300));
            } while (optional(","));
        }

        void plan() throws Wrong {
            if (state.plans.size() == 20) {
                throw wrong(5);
            }
            next++;
            int time = number(1, 9999);
            int room = knownRoom();
            next++;
            String kind = token();
            if (!List.of("open", "close", "come", "go").contains(kind)) {
                throw wrong(1);
            }
            next++;
            state.plans.add(new Plan(time, room, kind));
            sort(state);
        }
    }

    private static final List<String> KINDS = List.of("open", "close", "come", "go");

    private String input = "";
    private String output = "";
    private int code = 0;
    private int place = -1;
    private State now = new State();
    private final State[] slots = new State[2];
    private final List<State> history = new ArrayList<>();

    private static void sort(State state) {
        state.plans.sort((one, other) -> Integer.compare(one.time, other.time));
    }

    private Room at(int room) {
        if (room < 0 || room >= now.rooms.size()) {
            throw new IndexOutOfBoundsException();
        }
        return now.rooms.get(room);
    }

    private static void within(int value, int least, int most) {
        if (value < least || value > most) {
            throw new IllegalArgumentException();
        }
    }

    private void save() {
        history.add(now.copy());
        if (history.size() > 6) {
            history.remove(0);
        }
    }

    int append(int a, int b, int c, int d, int e) {
        if (input.length() + 20 > 500) {
            throw new IllegalStateException();
        }
        byte[] bytes = java.nio.ByteBuffer.allocate(20).putInt(a).putInt(b).putInt(c).putInt(d).putInt(e).array();
        input += new String(bytes, StandardCharsets.ISO_8859_1);
        return input.length();
    }

    void truncate(int length) {
        within(length, 0, input.length());
        input = input.substring(0, length);
    }

    int load() {
        String text = input;
        input = "";
        try {
            State read = new Reader(text).read();
            code = 0;
            place = -1;
            save();
            now = read;
            return now.rooms.size();
        } catch (Wrong wrong) {
            code = wrong.code;
            place = wrong.place;
            return -4;
        }
    }

    /** For choosing calls; no call of the face. */
    boolean hasEntry(int room, int tick) {
        return now.rooms.get(room).program.containsKey(tick);
    }

    int errorCode() {
        return code;
    }

    int errorPosition() {
        return place;
    }

    int find() {
        String name = input;
        input = "";
        for (int i = 0; i < now.rooms.size(); i++) {
            if (now.rooms.get(i).name.equals(name)) {
                return i;
            }
        }
        return -1;
    }

    int property(int what) {
        within(what, 0, 11);
        return new int[] {now.rooms.size(), now.time, now.time % 48, now.outside, now.plans.size(), now.fall, now.hold,
            now.setback, now.band, now.gain, now.speed, now.exercise}[what];
    }

    int room(int room, int what) {
        Room one = at(room);
        within(what, 0, 10);
        return new int[] {one.temperature, one.valve, one.battery, one.power, one.loss, one.open ? 1 : 0,
            one.present ? 1 : 0, one.windowMode, one.override == null ? -1 : one.override,
            one.override == null ? 0 : one.overrideTicks, one.heat}[what];
    }

    int count(int room, int what) {
        Room one = at(room);
        within(what, 0, 5);
        return one.counts[what];
    }

    int target(int room) {
        return now.target(at(room));
    }

    int programmed(int room, int tick) {
        Room one = at(room);
        within(tick, 0, 47);
        return one.told(tick);
    }

    int entry(int room, int index) {
        Room one = at(room);
        if (index < 0 || index >= one.program.size()) {
            throw new NoSuchElementException();
        }
        int tick = new ArrayList<>(one.program.keySet()).get(index);
        return 1000 * tick + one.program.get(tick);
    }

    int wanted(int room) {
        return now.wanted(at(room));
    }

    int why(int room) {
        Room one = at(room);
        if (one.valve != now.wanted(one)) {
            return one.battery == 0 ? 1 : 0;
        }
        if (one.windowMode > 0) {
            return 2;
        }
        if (Math.abs(now.target(one) - one.temperature) <= now.band) {
            return 3;
        }
        return now.target(one) <= one.temperature ? 4 : 5;
    }

    int planned(int index, int what) {
        if (index < 0 || index >= now.plans.size()) {
            throw new IndexOutOfBoundsException();
        }
        within(what, 0, 2);
        Plan plan = now.plans.get(index);
        return what == 0 ? plan.time : what == 1 ? plan.room : KINDS.indexOf(plan.kind);
    }

    private static State later(State from, int ticks) {
        State state = from.copy();
        for (int i = 0; i < ticks; i++) {
            state.tick();
        }
        return state;
    }

    int tempIn(int room, int ticks) {
        at(room);
        within(ticks, 0, 500);
        return later(now, ticks).rooms.get(room).temperature;
    }

    int valveIn(int room, int ticks) {
        at(room);
        within(ticks, 0, 500);
        return later(now, ticks).rooms.get(room).valve;
    }

    int warmIn(int room) {
        at(room);
        State state = now.copy();
        for (int ticks = 0; ticks <= 500; ticks++) {
            Room one = state.rooms.get(room);
            if (one.temperature >= state.target(one)) {
                return ticks;
            }
            state.tick();
        }
        return -1;
    }

    int emptyIn(int room) {
        at(room);
        State state = now.copy();
        for (int ticks = 0; ticks <= 500; ticks++) {
            if (state.rooms.get(room).battery == 0) {
                return ticks;
            }
            state.tick();
        }
        return -1;
    }

    int exerciseIn(int room) {
        int before = at(room).counts[2];
        State state = now.copy();
        for (int ticks = 1; ticks <= 336; ticks++) {
            state.tick();
            if (state.rooms.get(room).counts[2] > before) {
                return ticks;
            }
        }
        throw new AssertionError("no exercise within a week");
    }

    private static int lackIn(State from, int room, int ticks) {
        State state = from.copy();
        int sum = 0;
        for (int i = 0; i < ticks; i++) {
            state.tick();
            Room one = state.rooms.get(room);
            int below = state.target(one) - one.temperature;
            sum += below > 0 ? below : 0;
        }
        return sum;
    }

    int lack(int room, int ticks) {
        at(room);
        within(ticks, 0, 500);
        return lackIn(now, room, ticks);
    }

    int heatIn(int ticks) {
        within(ticks, 0, 500);
        State state = now.copy();
        int sum = 0;
        for (int i = 0; i < ticks; i++) {
            state.tick();
            for (Room one : state.rooms) {
                sum += one.valve;
            }
        }
        return sum;
    }

    int bestGain(int room) {
        at(room);
        int best = 1;
        int[] lacks = new int[51];
        for (int gain = 1; gain <= 50; gain++) {
            State state = now.copy();
            state.gain = gain;
            lacks[gain] = lackIn(state, room, 48);
            if (lacks[gain] < lacks[best]) {
                best = gain;
            }
        }
        return best;
    }

    int tempIf(int room, int outside, int ticks) {
        at(room);
        within(outside, -300, 400);
        within(ticks, 0, 500);
        State state = now.copy();
        state.outside = outside;
        return later(state, ticks).rooms.get(room).temperature;
    }

    int coldBy(int room, int ticks) {
        at(room);
        within(ticks, 0, 500);
        State opened = now.copy();
        opened.rooms.get(room).open = true;
        int colder = later(now, ticks).rooms.get(room).temperature - later(opened, ticks).rooms.get(room).temperature;
        return colder > 0 ? colder : 0;
    }

    private int least(int[] values) {
        int found = -1;
        for (int i = values.length - 1; i >= 0; i--) {
            if (found < 0 || values[i] <= values[found]) {
                found = i;
            }
        }
        return found;
    }

    int coldest() {
        return least(now.rooms.stream().mapToInt(one -> one.temperature).toArray());
    }

    int farthest() {
        return least(now.rooms.stream().mapToInt(one -> -Math.abs(one.temperature - now.target(one))).toArray());
    }

    int weakest() {
        return least(now.rooms.stream().mapToInt(one -> one.battery).toArray());
    }

    int sum(int what) {
        within(what, 0, 5);
        return now.rooms.stream().mapToInt(one -> one.counts[what]).sum();
    }

    double meanTemp() {
        return now.rooms.stream().mapToInt(one -> one.temperature).average().orElse(0.0);
    }

    float warmth(int room) {
        Room one = at(room);
        return now.time == 0 ? 0.0f : (float) one.heat / (float) (100 * now.time);
    }

    int reckoned(int room) {
        return at(room).battery;
    }

    int tick(int ticks) {
        within(ticks, 1, 200);
        save();
        int steps = 0;
        for (int i = 0; i < ticks; i++) {
            steps += now.tick();
        }
        return steps;
    }

    int setProgram(int room, int tick, int target) {
        Room one = at(room);
        within(tick, 0, 47);
        within(target, 50, 300);
        save();
        Integer before = one.program.put(tick, target);
        return before == null ? -1 : before;
    }

    int clearProgram(int room, int tick) {
        Room one = at(room);
        within(tick, 0, 47);
        if (!one.program.containsKey(tick)) {
            throw new NoSuchElementException();
        }
        save();
        one.program.remove(tick);
        return one.program.size();
    }

    int override(int room, int target, int ticks) {
        Room one = at(room);
        within(target, 50, 300);
        within(ticks, 0, 500);
        save();
        one.override = ticks == 0 ? null : Integer.valueOf(target);
        one.overrideTicks = ticks;
        return now.target(one);
    }

    boolean setWindow(int room, boolean open) {
        Room one = at(room);
        save();
        boolean before = one.open;
        one.open = open;
        return before;
    }

    int setPresent(int room, boolean present) {
        Room one = at(room);
        save();
        one.present = present;
        return now.target(one);
    }

    int plan(int time, int room, int kind) {
        at(room);
        within(time, now.time + 1, now.time + 9999);
        within(kind, 0, 3);
        if (now.plans.size() == 20) {
            throw new IllegalStateException();
        }
        save();
        Plan plan = new Plan(time, room, KINDS.get(kind));
        now.plans.add(plan);
        sort(now);
        return now.plans.indexOf(plan);
    }

    int dropPlan(int index) {
        if (index < 0 || index >= now.plans.size()) {
            throw new IndexOutOfBoundsException();
        }
        save();
        now.plans.remove(index);
        return now.plans.size();
    }

    int setOutside(int temperature) {
        within(temperature, -300, 400);
        save();
        int before = now.outside;
        now.outside = temperature;
        return before;
    }

    int setControl(int band, int gain, int speed) {
        within(band, 0, 50);
        within(gain, 1, 50);
        within(speed, 1, 100);
        save();
        int before = 100000 * now.band + 1000 * now.gain + now.speed;
        now.band = band;
        now.gain = gain;
        now.speed = speed;
        return before;
    }

    int newBattery(int room, int charge) {
        Room one = at(room);
        within(charge, 1, 9999);
        save();
        int before = one.battery;
        one.battery = charge;
        return before;
    }

    int turn(int room, int position) {
        Room one = at(room);
        within(position, 0, 100);
        save();
        int before = one.valve;
        one.valve = position;
        return before;
    }

    int keep(int slot) {
        if (slot < 0 || slot > 1) {
            throw new IndexOutOfBoundsException();
        }
        slots[slot] = now.copy();
        return now.time;
    }

    int restore(int slot) {
        if (slot < 0 || slot > 1) {
            throw new IndexOutOfBoundsException();
        }
        if (slots[slot] == null) {
            throw new IllegalStateException();
        }
        save();
        now = slots[slot].copy();
        return now.time;
    }

    int undo() {
        if (history.isEmpty()) {
            throw new IllegalStateException();
        }
        now = history.remove(history.size() - 1);
        return history.size();
    }

    int undoCount() {
        return history.size();
    }

    int writeRooms() {
        List<String> parts = new ArrayList<>();
        for (Room one : now.rooms) {
            parts.add(one.name + ":" + one.temperature + ">" + now.target(one) + "/" + one.valve
                    + (one.open ? "w" : "") + (one.present ? "" : "n") + (one.windowMode > 0 ? "m" : ""));
        }
        output = String.join(" ", parts);
        return output.length();
    }

    int writeProgram(int room) {
        List<String> parts = new ArrayList<>();
        at(room).program.forEach((tick, target) -> parts.add(tick + ":" + target));
        output = String.join(",", parts);
        return output.length();
    }

    int writePlans() {
        List<String> parts = new ArrayList<>();
        for (Plan plan : now.plans) {
            parts.add(plan.time + "@" + plan.room + "oc+-".charAt(KINDS.indexOf(plan.kind)));
        }
        output = String.join(" ", parts);
        return output.length();
    }

    int outputByte(int index) {
        if (index < 0 || index >= output.length()) {
            throw new NoSuchElementException();
        }
        return output.charAt(index);
    }
}
