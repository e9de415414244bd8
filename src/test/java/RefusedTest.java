import java.util.ArrayList;
import java.util.List;
import java.util.NoSuchElementException;

/**
 * EXCEPTIONS: a call that throws changes nothing, and where several apply, the one that is named first is thrown;
 * and each other call changes only what it is for. Looked at are both buffers, the parse error, both slots, the house
 * and each house that undo() brings back.
 */
public final class RefusedTest {
    private static final Checks CHECKS = new Checks();
    private static final Class<IndexOutOfBoundsException> INDEX = IndexOutOfBoundsException.class;
    private static final Class<IllegalArgumentException> RANGE = IllegalArgumentException.class;
    private static final Class<IllegalStateException> STATE = IllegalStateException.class;
    private static final Class<NoSuchElementException> ELEMENT = NoSuchElementException.class;
    private static final int LEAST = Integer.MIN_VALUE;
    private static final int GREATEST = Integer.MAX_VALUE;

    private interface Room {
        void ask(ValveRoom x, int room);
    }

    private interface Value {
        void ask(ValveRoom x, int value);
    }

    private final String name;
    private final Whole.Maker maker;
    private final Whole before;

    private RefusedTest(String name, Whole.Maker maker) {
        this.name = name;
        this.maker = maker;
        before = new Whole(maker, x -> { });
    }

    public static void main(String[] arguments) {
        RefusedTest[] houses = {new RefusedTest("new", ValveRoom::new), new RefusedTest("busy", RefusedTest::busy),
            new RefusedTest("full", RefusedTest::full)};
        for (RefusedTest house : houses) {
            house.roomsThatDoNotExist();
            house.plansAndSlotsThatDoNotExist();
            house.valuesOutOfRange();
            house.bytesThatAreNotThere();
        }
        new RefusedTest("new", ValveRoom::new).nothingThere();
        RefusedTest busy = new RefusedTest("busy", RefusedTest::busy);
        busy.entriesThatAreNotThere();
        busy.valuesOfARoom();
        busy.severalExceptions();
        busy.questionsChangeNothing();
        busy.changesOnlyThat();
        RefusedTest full = new RefusedTest("full", RefusedTest::full);
        full.tooMuch();
        full.questionsChangeNothing();
        CHECKS.end();
    }

    /** Two rooms, a slot that is kept and one that is not, six calls to undo, an error, and both buffers in use. */
    private static ValveRoom busy() {
        ValveRoom x = Checks.house("outside 20;window 6 hold 2;back 40;control 2 4 15;exercise 9;room a temp 190 power 12"
                + " loss 5 valve 30 battery 300;room b temp 150 loss 3;program a 5:150,20:220;"
                + "plan 3 a open;plan 60 a close;plan 12 b go;");
        x.keep(1);
        x.override(0, 230, 7);
        x.tick(4);
        x.setPresent(1, false);
        x.setProgram(1, 7, 90);
        x.plan(9, 1, 2);
        x.turn(1, 44);
        x.tick(1);
        Checks.load(x, "room ?");
        x.writeRooms();
        Checks.type(x, "room z temp 9;");
        return x;
    }

    /** Twenty plans, both slots kept, more than six calls, and 500 bytes in the input buffer. */
    private static ValveRoom full() {
        ValveRoom x = Checks.house("room a temp 150 battery 60;" + "plan 40 a open;".repeat(13) + "plan 41 a go;".repeat(7));
        x.keep(0);
        for (int i = 1; i <= 5; i++) {
            x.tick(1);
            x.override(0, 100 + i, i);
        }
        x.keep(1);
        x.setProgram(0, 0, 60);
        x.writePlans();
        Checks.type(x, "room full temp 7;" + " ".repeat(483));
        return x;
    }

    private void refused(String what, Class<? extends RuntimeException> due, Whole.Call call) {
        String told = name + ": " + what;
        CHECKS.refused(told, due, () -> call.on(maker.make()));
        List<String> unlike = before.unlike(new Whole(maker, call));
        CHECKS.that(told + " changed " + unlike, unlike.isEmpty());
    }

    private void changes(String what, int part, Whole.Call call) {
        List<String> unlike = before.unlike(new Whole(maker, call));
        CHECKS.same(name + ": " + what + " changes", unlike.toString(), "[" + Whole.PARTS[part] + "]");
    }

    private void leaves(String what, Whole.Call call) {
        List<String> unlike = before.unlike(new Whole(maker, call));
        CHECKS.same(name + ": " + what + " changes", unlike.toString(), "[]");
    }

    // ---- what does not exist

    /** "A room .. that does not exist causes an IndexOutOfBoundsException" */
    private void roomsThatDoNotExist() {
        noRoom("room", (x, room) -> x.room(room, 0));
        noRoom("count", (x, room) -> x.count(room, 0));
        noRoom("target", (x, room) -> x.target(room));
        noRoom("programmed", (x, room) -> x.programmed(room, 0));
        noRoom("entry", (x, room) -> x.entry(room, 0));
        noRoom("wanted", (x, room) -> x.wanted(room));
        noRoom("why", (x, room) -> x.why(room));
        noRoom("tempIn", (x, room) -> x.tempIn(room, 1));
        noRoom("valveIn", (x, room) -> x.valveIn(room, 1));
        noRoom("warmIn", (x, room) -> x.warmIn(room));
        noRoom("emptyIn", (x, room) -> x.emptyIn(room));
        noRoom("exerciseIn", (x, room) -> x.exerciseIn(room));
        noRoom("lack", (x, room) -> x.lack(room, 1));
        noRoom("bestGain", (x, room) -> x.bestGain(room));
        noRoom("tempIf", (x, room) -> x.tempIf(room, 0, 1));
        noRoom("coldBy", (x, room) -> x.coldBy(room, 1));
        noRoom("warmth", (x, room) -> x.warmth(room));
        noRoom("reckoned", (x, room) -> x.reckoned(room));
        noRoom("setProgram", (x, room) -> x.setProgram(room, 5, 100));
        noRoom("clearProgram", (x, room) -> x.clearProgram(room, 5));
        noRoom("override", (x, room) -> x.override(room, 100, 1));
        noRoom("setWindow", (x, room) -> x.setWindow(room, true));
        noRoom("setPresent", (x, room) -> x.setPresent(room, true));
        noRoom("plan", (x, room) -> x.plan(30, room, 0));
        noRoom("newBattery", (x, room) -> x.newBattery(room, 1));
        noRoom("turn", (x, room) -> x.turn(room, 1));
        noRoom("writeProgram", (x, room) -> x.writeProgram(room));
    }

    private void noRoom(String what, Room call) {
        int[] rooms = {LEAST, -1, 2, 6, GREATEST};
        for (int room : rooms) {
            refused(what + " of room " + room, INDEX, x -> call.ask(x, room));
        }
        refused(what + " of the room behind the last", INDEX, x -> call.ask(x, x.property(0)));
    }

    /** "A .. plan or slot that does not exist causes an IndexOutOfBoundsException" */
    private void plansAndSlotsThatDoNotExist() {
        int[] plans = {LEAST, -1, 20, GREATEST};
        for (int plan : plans) {
            refused("planned(" + plan + ", 0)", INDEX, x -> x.planned(plan, 0));
            refused("planned(" + plan + ", 3)", INDEX, x -> x.planned(plan, 3));
            refused("dropPlan(" + plan + ")", INDEX, x -> x.dropPlan(plan));
        }
        refused("the first plan that is not there", INDEX, x -> x.dropPlan(x.property(4)));
        refused("the first plan that cannot be asked", INDEX, x -> x.planned(x.property(4), 0));
        int[] slots = {LEAST, -1, 2, GREATEST};
        for (int slot : slots) {
            refused("keep(" + slot + ")", INDEX, x -> x.keep(slot));
            refused("restore(" + slot + ")", INDEX, x -> x.restore(slot));
        }
    }

    // ---- values

    private void outOfRange(String what, int[] values, Value call) {
        for (int value : values) {
            refused(what + " of " + value, RANGE, x -> call.ask(x, value));
        }
    }

    /** "another value that is out of range causes an IllegalArgumentException", of a call that needs no room */
    private void valuesOutOfRange() {
        outOfRange("truncate", new int[] {LEAST, -1, 501, GREATEST}, (x, length) -> x.truncate(length));
        outOfRange("property", new int[] {LEAST, -1, 12, GREATEST}, (x, what) -> x.property(what));
        outOfRange("sum", new int[] {LEAST, -1, 6, GREATEST}, (x, what) -> x.sum(what));
        outOfRange("heatIn", new int[] {LEAST, -1, 501, GREATEST}, (x, ticks) -> x.heatIn(ticks));
        outOfRange("tick", new int[] {LEAST, -1, 0, 201, GREATEST}, (x, ticks) -> x.tick(ticks));
        outOfRange("setOutside", new int[] {LEAST, -301, 401, GREATEST}, (x, outside) -> x.setOutside(outside));
        outOfRange("a band", new int[] {LEAST, -1, 51, GREATEST}, (x, band) -> x.setControl(band, 1, 1));
        outOfRange("a gain", new int[] {LEAST, 0, 51, GREATEST}, (x, gain) -> x.setControl(0, gain, 1));
        outOfRange("a speed", new int[] {LEAST, 0, 101, GREATEST}, (x, speed) -> x.setControl(0, 1, speed));
    }

    /** The same in a room that exists */
    private void valuesOfARoom() {
        int[] ticks = {LEAST, -1, 501, GREATEST};
        int[] ticksOfDay = {LEAST, -1, 48, GREATEST};
        int[] targets = {LEAST, 49, 301, GREATEST};
        outOfRange("room", new int[] {LEAST, -1, 11, GREATEST}, (x, what) -> x.room(1, what));
        outOfRange("count", new int[] {LEAST, -1, 6, GREATEST}, (x, what) -> x.count(1, what));
        outOfRange("planned", new int[] {LEAST, -1, 3, GREATEST}, (x, what) -> x.planned(1, what));
        outOfRange("programmed", ticksOfDay, (x, tick) -> x.programmed(1, tick));
        outOfRange("tempIn", ticks, (x, many) -> x.tempIn(1, many));
        outOfRange("valveIn", ticks, (x, many) -> x.valveIn(1, many));
        outOfRange("lack", ticks, (x, many) -> x.lack(1, many));
        outOfRange("tempIf", ticks, (x, many) -> x.tempIf(1, 0, many));
        outOfRange("tempIf outside", new int[] {LEAST, -301, 401, GREATEST}, (x, outside) -> x.tempIf(1, outside, 1));
        outOfRange("coldBy", ticks, (x, many) -> x.coldBy(1, many));
        outOfRange("setProgram at", ticksOfDay, (x, tick) -> x.setProgram(1, tick, 100));
        outOfRange("setProgram of", targets, (x, target) -> x.setProgram(1, 7, target));
        outOfRange("clearProgram", ticksOfDay, (x, tick) -> x.clearProgram(1, tick));
        outOfRange("override of", targets, (x, target) -> x.override(1, target, 1));
        outOfRange("override of ticks", ticks, (x, many) -> x.override(1, 100, many));
        outOfRange("plan at", new int[] {LEAST, 0, 4, 5, 10005, GREATEST}, (x, time) -> x.plan(time, 1, 0));
        outOfRange("plan of", new int[] {LEAST, -1, 4, GREATEST}, (x, kind) -> x.plan(30, 1, kind));
        outOfRange("newBattery", new int[] {LEAST, 0, 10000, GREATEST}, (x, charge) -> x.newBattery(1, charge));
        outOfRange("turn", new int[] {LEAST, -1, 101, GREATEST}, (x, position) -> x.turn(1, position));
        outOfRange("truncate", new int[] {LEAST, -1, 15, GREATEST}, (x, length) -> x.truncate(length));
    }

    private void bytesThatAreNotThere() {
        int[] indexes = {LEAST, -1, 450, GREATEST};
        for (int index : indexes) {
            refused("outputByte(" + index + ")", ELEMENT, x -> x.outputByte(index));
        }
        refused("the byte behind the output", ELEMENT, x -> x.outputByte(Whole.output(x).length()));
    }

    private void entriesThatAreNotThere() {
        int[] indexes = {LEAST, -1, 2, 48, GREATEST};
        for (int index : indexes) {
            refused("entry(0, " + index + ")", ELEMENT, x -> x.entry(0, index));
        }
        int[] ticks = {0, 4, 6, 19, 21, 47};
        for (int tick : ticks) {
            refused("clearProgram(0, " + tick + ")", ELEMENT, x -> x.clearProgram(0, tick));
        }
        refused("restore(0) of nothing", STATE, x -> x.restore(0));
    }

    private void nothingThere() {
        refused("undo()", STATE, x -> x.undo());
        refused("restore(0)", STATE, x -> x.restore(0));
        refused("restore(1)", STATE, x -> x.restore(1));
        refused("truncate(1)", RANGE, x -> x.truncate(1));
    }

    private void tooMuch() {
        refused("append() behind 500", STATE, x -> x.append(1, 2, 3, 4, 5));
        refused("plan() behind twenty", STATE, x -> x.plan(30, 0, 0));
        refused("plan() behind twenty, next", STATE, x -> x.plan(6, 0, 3));
        refused("plan() behind twenty, latest", STATE, x -> x.plan(5 + 9999, 0, 3));
        refused("plan() too late, behind twenty", RANGE, x -> x.plan(5 + 10000, 0, 3));
        refused("plan() too early, behind twenty", RANGE, x -> x.plan(5, 0, 3));
        refused("plan() of no kind, behind twenty", RANGE, x -> x.plan(30, 0, 4));
        refused("plan() in no room, behind twenty", INDEX, x -> x.plan(30, 1, 0));
        refused("plan() in no room, too late, behind twenty", INDEX, x -> x.plan(GREATEST, 1, 4));
        refused("truncate(501)", RANGE, x -> x.truncate(501));
    }

    /** "If several exceptions apply, the one that is named first in the method's throws clause is thrown." */
    private void severalExceptions() {
        refused("room(2, 11)", INDEX, x -> x.room(2, 11));
        refused("count(2, 6)", INDEX, x -> x.count(2, 6));
        refused("programmed(2, 48)", INDEX, x -> x.programmed(2, 48));
        refused("entry(2, 99)", INDEX, x -> x.entry(2, 99));
        refused("planned(4, 3)", INDEX, x -> x.planned(4, 3));
        refused("tempIn(2, 501)", INDEX, x -> x.tempIn(2, 501));
        refused("valveIn(2, 501)", INDEX, x -> x.valveIn(2, 501));
        refused("lack(2, -1)", INDEX, x -> x.lack(2, -1));
        refused("tempIf(2, 401, 501)", INDEX, x -> x.tempIf(2, 401, 501));
        refused("coldBy(-1, 501)", INDEX, x -> x.coldBy(-1, 501));
        refused("setProgram(2, 48, 301)", INDEX, x -> x.setProgram(2, 48, 301));
        refused("clearProgram(2, 48)", INDEX, x -> x.clearProgram(2, 48));
        refused("clearProgram(2, 0)", INDEX, x -> x.clearProgram(2, 0));
        refused("override(2, 301, 501)", INDEX, x -> x.override(2, 301, 501));
        refused("plan(0, 2, 4)", INDEX, x -> x.plan(0, 2, 4));
        refused("newBattery(2, 0)", INDEX, x -> x.newBattery(2, 0));
        refused("turn(2, 101)", INDEX, x -> x.turn(2, 101));
        refused("restore(2)", INDEX, x -> x.restore(2));
    }

    // ---- calls that do not throw

    /** "Methods that ask what would be do not change anything"; nor do those that ask what is. */
    private void questionsChangeNothing() {
        leaves("tempIn(0, 500)", x -> x.tempIn(0, 500));
        leaves("tempIn(0, 0)", x -> x.tempIn(0, 0));
        leaves("valveIn(0, 500)", x -> x.valveIn(0, 500));
        leaves("warmIn(0)", x -> x.warmIn(0));
        leaves("emptyIn(0)", x -> x.emptyIn(0));
        leaves("exerciseIn(0)", x -> x.exerciseIn(0));
        leaves("lack(0, 500)", x -> x.lack(0, 500));
        leaves("heatIn(500)", x -> x.heatIn(500));
        leaves("bestGain(0)", x -> x.bestGain(0));
        leaves("tempIf(0, -300, 500)", x -> x.tempIf(0, -300, 500));
        leaves("tempIf(0, 400, 1)", x -> x.tempIf(0, 400, 1));
        leaves("coldBy(0, 500)", x -> x.coldBy(0, 500));
        leaves("all other questions", x -> {
            x.property(0);
            x.room(0, 0);
            x.count(0, 0);
            x.target(0);
            x.programmed(0, 0);
            x.entry(0, 0);
            x.wanted(0);
            x.why(0);
            x.planned(0, 0);
            x.coldest();
            x.farthest();
            x.weakest();
            x.sum(0);
            x.meanTemp();
            x.warmth(0);
            x.reckoned(0);
            x.errorCode();
            x.errorPosition();
            x.undoCount();
            x.outputByte(0);
        });
    }

    /** What each call is for, and nothing beside it */
    private void changesOnlyThat() {
        changes("append()", Whole.INPUT, x -> x.append(0x20202020, 0x20202020, 0x20202020, 0x20202020, 0x20202020));
        changes("truncate(13)", Whole.INPUT, x -> x.truncate(13));
        leaves("truncate(14)", x -> x.truncate(14));
        changes("find()", Whole.INPUT, x -> x.find());
        changes("writeRooms()", Whole.OUTPUT, x -> {
            x.writePlans();
            x.writeProgram(0);
        });
        changes("keep(0)", Whole.SLOTS, x -> x.keep(0));
        changes("keep(1)", Whole.SLOTS, x -> x.keep(1));
        changes("undo()", Whole.STATES, x -> x.undo());
        List<Whole.Call> made = new ArrayList<>(List.of(x -> x.tick(1), x -> x.setProgram(0, 5, 150),
                x -> x.clearProgram(0, 20), x -> x.override(0, 50, 0), x -> x.setWindow(0, true),
                x -> x.setPresent(0, true), x -> x.plan(5 + 9999, 1, 3), x -> x.dropPlan(0), x -> x.setOutside(20)));
        made.add(x -> x.setControl(2, 4, 15));
        made.add(x -> x.newBattery(0, 9999));
        made.add(x -> x.turn(0, 0));
        made.add(x -> x.restore(1));
        for (int i = 0; i < made.size(); i++) {
            changes("change " + i, Whole.STATES, made.get(i));
        }
        changesOfLoad();
    }

    /** "(then only the buffer and the parse error change)"; "everything but the two slots and the output buffer" */
    private void changesOfLoad() {
        List<String> wrong = before.unlike(new Whole(maker, x -> {
            x.truncate(13);
            x.load();
        }));
        CHECKS.same("a load() with an error changes", wrong.toString(), "[" + Whole.PARTS[Whole.INPUT] + ", "
                + Whole.PARTS[Whole.ERROR] + "]");
        List<String> right = before.unlike(new Whole(maker, x -> x.load()));
        CHECKS.same("a right load() changes", right.toString(), "[" + Whole.PARTS[Whole.INPUT] + ", "
                + Whole.PARTS[Whole.ERROR] + ", " + Whole.PARTS[Whole.STATES] + "]");
    }
}
