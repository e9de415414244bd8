import java.lang.reflect.InvocationTargetException;
import java.lang.reflect.Method;
import java.util.ArrayList;
import java.util.Arrays;
import java.util.Comparator;
import java.util.List;
import java.util.Random;

/** Runs of chosen calls, always the same ones, that the class and the Model have to answer alike. */
public final class ModelTest {
    private static final int RUNS = 1500;
    private static final int CALLS = 512;

    private static final String[] NAMES = {"a", "b", "hall", "bath", "kitch", "attics", "cellar", "ro"};
    private static final String[] WORDS = {"outside", "window", "hold", "back", "control", "exercise", "room", "temp",
        "power", "loss", "valve", "battery", "program", "plan", "open", "close", "come", "go", "a", "hall", "sevenly",
        ";", ":", ",", "-", "A", "\t", "\u00e9", "0", "1", "47", "48", "100", "300", "9999", "10000",
        "00000000000000000007", "99999999999999999999999"};
    private static final String[] CHANGES = {"tick", "setProgram", "clearProgram", "override", "setWindow",
        "setPresent", "plan", "dropPlan", "setOutside", "setControl", "newBattery", "turn", "restore", "undo", "keep",
        "tick", "tick", "tick", "plan", "setProgram", "keep", "turn", "override"};
    private static final String[] LOOKS = {"tempIn", "valveIn", "warmIn", "emptyIn", "exerciseIn", "lack", "heatIn",
        "tempIf", "coldBy", "coldest", "farthest", "weakest", "sum", "meanTemp", "warmth", "reckoned", "wanted", "why",
        "target", "programmed", "entry", "planned", "property", "room", "count", "undoCount", "errorCode",
        "errorPosition"};

    private final Random random;
    private final ValveRoom house = new ValveRoom();
    private final Model model = new Model();
    private final List<String> told = new ArrayList<>();
    private int calls;
    private boolean apart;

    private ModelTest(int run) {
        random = new Random(run);
    }

    public static void main(String[] arguments) {
        Checks checks = new Checks();
        int runs = arguments.length > 0 ? Integer.parseInt(arguments[0]) : RUNS;
        int first = arguments.length > 1 ? Integer.parseInt(arguments[1]) : 0;
        int unlike = 0;
        for (int run = first; run < first + runs && unlike < 3; run++) {
            ModelTest test = new ModelTest(run);
            test.run();
            checks.that("run " + run, !test.apart);
            if (test.apart) {
                unlike++;
                test.tell();
            }
        }
        checks.end();
    }

    private void tell() {
        for (String line : told) {
            System.out.println("    " + line);
        }
    }

    private void run() {
        if (!chance(10)) {
            type(validText());
            call("load");
        }
        while (calls < CALLS && !apart) {
            step();
        }
    }

    private void step() {
        int kind = random.nextInt(100);
        if (kind < 45) {
            call(CHANGES[random.nextInt(CHANGES.length)]);
        } else if (kind < 85) {
            call(LOOKS[random.nextInt(LOOKS.length)]);
        } else if (kind < 87) {
            lookAtAll();
        } else if (kind < 91) {
            write();
        } else if (kind < 93) {
            load();
        } else if (kind < 96) {
            type(NAMES[random.nextInt(NAMES.length)]);
            call("find");
        } else if (kind < 97) {
            call(chance(60) ? "append" : "truncate");
        } else if (kind < 98 && chance(30)) {
            for (int i = 0; i < 21; i++) {
                call("plan");
            }
        } else if (chance(15)) {
            call("bestGain");
        }
    }

    private void load() {
        int kind = random.nextInt(10);
        if (kind < 2) {
            type(validText());
        } else if (kind < 4) {
            type(fullText());
        } else if (kind < 9) {
            type(brokenText());
        }
        call("load");
        call("errorCode");
        call("errorPosition");
    }

    private void write() {
        int kind = random.nextInt(3);
        Object length = call(kind == 0 ? "writeRooms" : kind == 1 ? "writePlans" : "writeProgram");
        int end = length instanceof Integer ? (Integer) length : 0;
        int first = Math.max(0, end - 30);
        for (int i = first; i <= end; i++) {
            callWith("outputByte", i);
        }
        callWith("outputByte", random.nextInt(100) - 5);
    }

    private void lookAtAll() {
        for (int i = 0; i < 12; i++) {
            callWith("property", i);
        }
        int room = someRoom();
        for (int i = 0; i < 11; i++) {
            callWith("room", room, i);
        }
        for (int i = 0; i < 6; i++) {
            callWith("count", room, i);
        }
    }

    // ---- texts

    private String validText() {
        List<String> tokens = new ArrayList<>();
        List<String> names = new ArrayList<>(Arrays.asList(NAMES));
        int rooms = 1 + random.nextInt(random.nextInt(6) + 1);
        settings(tokens);
        for (int i = 0; i < rooms; i++) {
            room(tokens, names.get(i));
            if (chance(50)) {
                program(tokens, names.get(i));
            }
        }
        int plans = random.nextInt(8);
        for (int i = 0; i < plans; i++) {
            add(tokens, "plan", number(1, chance(80) ? 30 : 300), names.get(random.nextInt(rooms)),
                    pick("open", "close", "come", "go"), ";");
        }
        return join(tokens);
    }

    private void settings(List<String> tokens) {
        if (chance(60)) {
            boolean below = chance(40);
            add(tokens, "outside");
            if (below) {
                add(tokens, "-");
            }
            add(tokens, below ? number(0, 300) : number(0, 400), ";");
        }
        if (chance(60)) {
            add(tokens, "window", number(1, chance(70) ? 9 : 99), "hold", number(1, 48), ";");
        }
        if (chance(50)) {
            add(tokens, "back", number(0, 150), ";");
        }
        if (chance(60)) {
            add(tokens, "control", number(0, chance(70) ? 9 : 50), number(1, 50), number(1, 100), ";");
        }
        if (chance(70)) {
            add(tokens, "exercise", number(0, chance(60) ? 30 : 335), ";");
        }
    }

    private void room(List<String> tokens, String name) {
        add(tokens, "room", name, "temp", number(0, chance(50) ? 400 : 220));
        if (chance(60)) {
            add(tokens, "power", number(1, 50));
        }
        if (chance(60)) {
            add(tokens, "loss", number(0, chance(70) ? 12 : 50));
        }
        if (chance(60)) {
            add(tokens, "valve", number(0, 100));
        }
        if (chance(60)) {
            add(tokens, "battery", number(0, chance(50) ? 300 : 9999));
        }
        add(tokens, ";");
    }

    private void program(List<String> tokens, String name) {
        add(tokens, "program", name);
        List<Integer> ticks = new ArrayList<>();
        int entries = 1 + random.nextInt(4);
        while (ticks.size() < entries) {
            int tick = random.nextInt(48);
            if (!ticks.contains(tick)) {
                if (!ticks.isEmpty()) {
                    add(tokens, ",");
                }
                ticks.add(tick);
                add(tokens, Integer.toString(tick), ":", number(50, 300));
            }
        }
        add(tokens, ";");
    }

    /** Six rooms or twenty plans, and perhaps one more. */
    private String fullText() {
        StringBuilder text = new StringBuilder();
        int rooms = chance(50) ? 1 : 5 + random.nextInt(3);
        for (int i = 0; i < rooms; i++) {
            text.append("room ").append((char) ('a' + i)).append(" temp ").append(number(0, 400)).append(';');
        }
        int plans = chance(50) ? 0 : 19 + random.nextInt(3);
        for (int i = 0; i < plans; i++) {
            text.append("plan ").append(number(1, 30)).append(" a ").append(pick("open", "close", "come", "go"))
                    .append(';');
        }
        return text.substring(0, Math.min(500, text.length()));
    }

    private String brokenText() {
        List<String> tokens = new ArrayList<>(Arrays.asList(validText().replaceAll("([^a-z0-9 \n])", " $1 ")
                .trim().split("[ \n]+")));
        int changes = 1 + random.nextInt(3);
        for (int i = 0; i < changes && tokens.size() > 1; i++) {
            int at = random.nextInt(tokens.size());
            switch (random.nextInt(5)) {
                case 0: tokens.set(at, WORDS[random.nextInt(WORDS.length)]); break;
                case 1: tokens.remove(at); break;
                case 2: tokens.add(at, WORDS[random.nextInt(WORDS.length)]); break;
                case 3: tokens.add(at, tokens.get(random.nextInt(tokens.size()))); break;
                default: again(tokens, at); break;
            }
        }
        if (chance(10)) {
            tokens = tokens.subList(0, random.nextInt(tokens.size()));
        }
        return join(tokens);
    }

    /** Repeats what stands from one semicolon to the next, once or so often that it may be too much. */
    private void again(List<String> tokens, int at) {
        int from = at;
        while (from > 0 && !tokens.get(from - 1).equals(";")) {
            from--;
        }
        int to = at;
        while (to < tokens.size() - 1 && !tokens.get(to).equals(";")) {
            to++;
        }
        List<String> statement = new ArrayList<>(tokens.subList(from, to + 1));
        int times = chance(70) ? 1 : 20;
        for (int i = 0; i < times; i++) {
            tokens.addAll(to + 1, statement);
        }
    }

    private String join(List<String> tokens) {
        StringBuilder text = new StringBuilder();
        String before = ";";
        for (String token : tokens) {
            boolean needed = isWord(before) && isWord(token) || isNumber(before) && isNumber(token);
            if (needed || chance(15)) {
                text.append(chance(80) ? ' ' : '\n');
            }
            if (text.length() + token.length() > 500) {
                break;
            }
            text.append(token);
            before = token;
        }
        if (text.length() < 490 && chance(20)) {
            text.append(" \n ");
        }
        return text.substring(0, Math.min(500, text.length()));
    }

    private static boolean isWord(String token) {
        return token.matches("[a-z]+");
    }

    private static boolean isNumber(String token) {
        return token.matches("[0-9]+");
    }

    private static void add(List<String> tokens, String... more) {
        tokens.addAll(Arrays.asList(more));
    }

    private String number(int least, int most) {
        return Integer.toString(within(least, most));
    }

    private String pick(String... several) {
        return several[random.nextInt(several.length)];
    }

    private void type(String text) {
        int length = text.length();
        int left = length % 20;
        int[] five = new int[5];
        Object end = 0;
        for (int from = 0; from < length; from += 20) {
            for (int i = 0; i < 5; i++) {
                five[i] = 0;
                for (int k = 0; k < 4; k++) {
                    int at = from + 4 * i + k;
                    five[i] = five[i] << 8 | (at < length ? text.charAt(at) & 255 : 0);
                }
            }
            end = callWith("append", five[0], five[1], five[2], five[3], five[4]);
        }
        if (left > 0 && end instanceof Integer) {
            callWith("truncate", (Integer) end - 20 + left);
        }
    }

    // ---- calls

    private boolean chance(int percent) {
        return random.nextInt(100) < percent;
    }

    private int within(int least, int most) {
        int kind = random.nextInt(20);
        return kind == 0 ? least : kind == 1 ? most : least + random.nextInt(most - least + 1);
    }

    /** Mostly within the range; sometimes just beside it or far from it. */
    private int near(int least, int most) {
        int kind = random.nextInt(60);
        switch (kind) {
            case 0: return least - 1;
            case 1: return most + 1;
            case 2: return random.nextInt();
            case 3: return chance(50) ? Integer.MIN_VALUE : Integer.MAX_VALUE;
            default: return within(least, most);
        }
    }

    private int someRoom() {
        return near(0, Math.max(0, model.property(0) - 1));
    }

    private int someTicks() {
        return near(0, chance(80) ? 40 : 500);
    }

    private Object call(String name) {
        int time = model.property(1);
        switch (name) {
            case "append": return callWith(name, random.nextInt(), 0, -1, random.nextInt(), 0x20202020);
            case "truncate": return callWith(name, near(0, 20));
            case "property": return callWith(name, near(0, 11));
            case "room": return callWith(name, someRoom(), near(0, 10));
            case "count": return callWith(name, someRoom(), near(0, 5));
            case "sum": return callWith(name, near(0, 5));
            case "programmed": return callWith(name, someRoom(), near(0, 47));
            case "clearProgram": return callWith(name, someRoom(), someTick());
            case "entry": return callWith(name, someRoom(), near(0, 3));
            case "planned": return callWith(name, near(0, Math.max(0, model.property(4) - 1)), near(0, 2));
            case "tempIn": case "valveIn": case "lack": case "coldBy":
                return callWith(name, someRoom(), someTicks());
            case "heatIn": return callWith(name, someTicks());
            case "tempIf": return callWith(name, someRoom(), near(-300, 400), someTicks());
            case "tick": return callWith(name, near(1, chance(80) ? 12 : 200));
            case "setProgram": return callWith(name, someRoom(), near(0, 47), near(50, 300));
            case "override": return callWith(name, someRoom(), near(50, 300), near(0, chance(80) ? 9 : 500));
            case "setWindow": case "setPresent": return callWith(name, someRoom(), chance(50));
            case "plan": return callWith(name, near(time + 1, time + (chance(90) ? 20 : 9999)), someRoom(), near(0, 3));
            case "dropPlan": return callWith(name, near(0, Math.max(0, model.property(4) - 1)));
            case "setOutside": return callWith(name, near(-300, 400));
            case "setControl": return callWith(name, near(0, 50), near(1, 50), near(1, 100));
            case "newBattery": return callWith(name, someRoom(), near(1, chance(50) ? 200 : 9999));
            case "turn": return callWith(name, someRoom(), near(0, 100));
            case "keep": case "restore": return callWith(name, near(0, 1));
            case "target": case "wanted": case "why": case "warmIn": case "emptyIn": case "exerciseIn": case "bestGain":
            case "warmth": case "reckoned": case "writeProgram":
                return callWith(name, someRoom());
            default: return callWith(name);
        }
    }

    private int someTick() {
        List<Integer> ticks = new ArrayList<>();
        int room = random.nextInt(Math.max(1, model.property(0)));
        for (int i = 0; room < model.property(0) && i < 48; i++) {
            if (model.hasEntry(room, i)) {
                ticks.add(i);
            }
        }
        return ticks.isEmpty() || chance(30) ? near(0, 47) : ticks.get(random.nextInt(ticks.size()));
    }

    private Object callWith(String name, Object... arguments) {
        if (calls >= CALLS || apart) {
            return null;
        }
        calls++;
        String got = answer(house, name, arguments);
        String due = answer(model, name, arguments);
        String line = name + Arrays.toString(arguments) + " -> " + due;
        if (!got.equals(due)) {
            apart = true;
            line += " but the class answers " + got;
        }
        told.add(line);
        return due.matches("-?[0-9]{1,9}") ? Integer.valueOf(due) : due;
    }

    private static String answer(Object target, String name, Object[] arguments) {
        try {
            Method method = methodOf(target, name);
            method.setAccessible(true);
            Object got = method.invoke(target, arguments);
            if (got instanceof Double) {
                return "double " + Double.doubleToLongBits((Double) got);
            }
            return got instanceof Float ? "float " + Float.floatToIntBits((Float) got) : String.valueOf(got);
        } catch (InvocationTargetException thrown) {
            return "throws " + thrown.getCause().getClass().getName();
        } catch (IllegalAccessException e) {
            throw new AssertionError(e);
        }
    }

    private static Method methodOf(Object target, String name) {
        return Arrays.stream(target.getClass().getDeclaredMethods()).filter(one -> one.getName().equals(name))
                .min(Comparator.comparing(Method::toString)).orElseThrow();
    }
}
