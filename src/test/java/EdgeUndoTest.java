import java.util.ArrayList;
import java.util.List;

/** Promises 46 to 49 and section 4, at the edges that their sentences name: a test for each sentence. */
public final class EdgeUndoTest {
    private static final Checks CHECKS = new Checks();
    private static final String HOUSE = "back 20;exercise 3;room a temp 190 power 12 loss 5 valve 30 battery 300;"
            + "room b temp 150;program a 5:150,20:220;plan 3 a open;plan 60 a close;plan 12 b go;";

    public static void main(String[] arguments) {
        nothingToUndo();
        eachCallThatCanBeUndone();
        alsoIfNothingChanges();
        callsThatCannotBeUndone();
        lastSixAreKept();
        oldestIsForgotten();
        sixOfEachKind();
        undoneIsGone();
        ticksAreOneCall();
        fullListsComeBack();
        slotsThatExist();
        nothingKept();
        inPlaceOfWhatWasThere();
        whichKeepsIt();
        butWhatCanBeUndone();
        keptAheadOfALoad();
        theTimeThen();
        CHECKS.end();
    }

    /** A call and how it is told. */
    private record Step(String name, Whole.Call call) {
        void on(ValveRoom x) {
            call.on(x);
        }
    }

    private static Step step(String name, Whole.Call call) {
        return new Step(name, call);
    }

    /** The calls that section 4 names, each so that it changes something. */
    private static List<Step> changes() {
        List<Step> steps = new ArrayList<>();
        steps.add(step("load()", x -> Checks.load(x, HOUSE + "outside 7;")));
        steps.add(step("tick()", x -> x.tick(1)));
        steps.add(step("setProgram()", x -> x.setProgram(0, 5, 160)));
        steps.add(step("clearProgram()", x -> x.clearProgram(0, 20)));
        steps.add(step("override()", x -> x.override(0, 300, 500)));
        steps.add(step("setWindow()", x -> x.setWindow(0, true)));
        steps.add(step("setPresent()", x -> x.setPresent(0, false)));
        steps.add(step("plan()", x -> x.plan(300, 0, 0)));
        steps.add(step("dropPlan()", x -> x.dropPlan(2)));
        steps.add(step("setOutside()", x -> x.setOutside(-300)));
        steps.add(step("setControl()", x -> x.setControl(50, 50, 100)));
        steps.add(step("newBattery()", x -> x.newBattery(0, 9999)));
        steps.add(step("turn()", x -> x.turn(0, 100)));
        steps.add(step("restore()", x -> x.restore(1)));
        return steps;
    }

    /** A house with one call to undo, something in slot 1 and nothing in slot 0. */
    private static ValveRoom house() {
        ValveRoom x = new ValveRoom();
        x.keep(1);
        Checks.load(x, HOUSE);
        return x;
    }

    /** "Throws IllegalStateException if there is nothing to undo" */
    private static void nothingToUndo() {
        ValveRoom x = new ValveRoom();
        CHECKS.same("a new object", x.undoCount(), 0);
        CHECKS.inWrongState("undo() of a new object", () -> x.undo());
        Checks.load(x, "back");
        CHECKS.inWrongState("undo() behind an error", () -> x.undo());
        x.tick(1);
        CHECKS.same("one", x.undoCount(), 1);
        CHECKS.same("undo() of one", x.undo(), 0);
        CHECKS.same("none", x.undoCount(), 0);
        CHECKS.inWrongState("undo() of none", () -> x.undo());
        CHECKS.same("still none", x.undoCount(), 0);
        CHECKS.same("the time", x.property(1), 0);
    }

    /** "Each successful load(), and each call of .. can be undone"; "undo() restores everything" */
    private static void eachCallThatCanBeUndone() {
        for (Step change : changes()) {
            ValveRoom x = house();
            String before = Whole.state(x);
            change.on(x);
            CHECKS.same("undoCount() behind " + change.name(), x.undoCount(), 2);
            CHECKS.that(change.name() + " changes something", !Whole.state(x).equals(before));
            CHECKS.same("undo() of " + change.name(), x.undo(), 1);
            CHECKS.same("behind undo() of " + change.name(), Whole.state(x), before);
            CHECKS.same("undo() of load()", x.undo(), 0);
            CHECKS.same("no rooms", x.property(0), 0);
        }
    }

    /** "(also if nothing changes)" */
    private static void alsoIfNothingChanges() {
        Step[] same = {step("load()", x -> Checks.load(x, HOUSE)), step("setProgram()", x -> x.setProgram(0, 5, 150)),
            step("override()", x -> x.override(0, 50, 0)), step("setWindow()", x -> x.setWindow(0, false)),
            step("setPresent()", x -> x.setPresent(0, true)), step("setOutside()", x -> x.setOutside(50)),
            step("setControl()", x -> x.setControl(3, 5, 20)), step("newBattery()", x -> x.newBattery(0, 300)),
            step("turn()", x -> x.turn(0, 30)), step("restore()", x -> x.restore(0))};
        for (Step change : same) {
            ValveRoom x = house();
            x.keep(0);
            String before = Whole.state(x);
            change.on(x);
            CHECKS.same(change.name() + " changes nothing", Whole.state(x), before);
            CHECKS.same("undoCount() behind " + change.name(), x.undoCount(), 2);
            CHECKS.same("undo() of " + change.name(), x.undo(), 1);
            CHECKS.same("behind undo() of " + change.name(), Whole.state(x), before);
        }
    }

    /** All that section 4 does not name. */
    private static void callsThatCannotBeUndone() {
        Step[] others = {step("append()", x -> x.append(0, 0, 0, 0, 0)), step("truncate()", x -> x.truncate(0)),
            step("a load() with an error", x -> Checks.load(x, "?")), step("find()", x -> x.find()),
            step("keep()", x -> x.keep(0)), step("writeRooms()", x -> x.writeRooms()),
            step("writeProgram()", x -> x.writeProgram(0)), step("writePlans()", x -> x.writePlans()),
            step("tempIn()", x -> x.tempIn(0, 500)), step("bestGain()", x -> x.bestGain(0)),
            step("coldBy()", x -> x.coldBy(0, 500)), step("tempIf()", x -> x.tempIf(0, 0, 500)),
            step("undoCount()", x -> x.undoCount())};
        for (Step other : others) {
            ValveRoom x = house();
            String before = Whole.state(x);
            other.on(x);
            CHECKS.same("undoCount() behind " + other.name(), x.undoCount(), 1);
            CHECKS.same("the house behind " + other.name(), Whole.state(x), before);
            x.undo();
            CHECKS.same("undo() behind " + other.name() + " undoes load()", x.property(0), 0);
        }
    }

    /** "the last 6 are kept" */
    private static void lastSixAreKept() {
        for (int calls = 1; calls <= 14; calls++) {
            ValveRoom x = new ValveRoom();
            for (int i = 1; i <= calls; i++) {
                x.setOutside(i);
                CHECKS.same("undoCount() behind " + i, x.undoCount(), Math.min(i, 6));
            }
            int kept = Math.min(calls, 6);
            for (int i = 1; i <= kept; i++) {
                CHECKS.same("undo() " + i + " of " + calls, x.undo(), kept - i);
                CHECKS.same("outside behind it", x.property(3), i == calls ? 50 : calls - i);
            }
            CHECKS.inWrongState("one undo() more than " + kept, () -> x.undo());
            CHECKS.same("outside stays", x.property(3), calls <= 6 ? 50 : calls - 6);
        }
    }

    /** A seventh call of each kind is kept, and the first of the seven is not. */
    private static void oldestIsForgotten() {
        for (Step change : changes()) {
            ValveRoom x = house();
            for (int i = 1; i <= 6; i++) {
                x.override(0, 100 + i, i);
            }
            String before = Whole.state(x);
            change.on(x);
            CHECKS.same("six behind " + change.name(), x.undoCount(), 6);
            CHECKS.same("undo() of " + change.name(), x.undo(), 5);
            CHECKS.same("what was ahead of " + change.name(), Whole.state(x), before);
            for (int i = 5; i >= 1; i--) {
                CHECKS.same("undo()", x.undo(), i - 1);
                CHECKS.same("the override ahead of it", x.room(0, 8), 100 + i);
                CHECKS.same("its ticks", x.room(0, 9), i);
            }
            CHECKS.inWrongState("the first of seven behind " + change.name(), () -> x.undo());
            CHECKS.same("it stays", x.room(0, 8), 101);
        }
    }

    /** Six of one kind, and a seventh */
    private static void sixOfEachKind() {
        ValveRoom x = new ValveRoom();
        for (int i = 1; i <= 7; i++) {
            Checks.load(x, "room a temp " + i + ";");
        }
        for (int i = 6; i >= 1; i--) {
            CHECKS.same("undo() of load()", x.undo(), i - 1);
            CHECKS.same("the room of the load() before", x.room(0, 0), i);
        }
        CHECKS.inWrongState("undo() of the first load()", () -> x.undo());
        ValveRoom y = Checks.house("room a temp 1;");
        for (int i = 1; i <= 7; i++) {
            y.tick(1);
        }
        for (int i = 6; i >= 1; i--) {
            CHECKS.same("undo() of tick()", y.undo(), i - 1);
            CHECKS.same("the time", y.property(1), i);
        }
        CHECKS.inWrongState("undo() of the first tick()", () -> y.undo());
        ValveRoom z = Checks.house("room a temp 1;");
        z.keep(0);
        for (int i = 1; i <= 7; i++) {
            z.restore(0);
            CHECKS.same("restore() " + i, z.undoCount(), Math.min(6, i + 1));
        }
    }

    /** What was undone does not come again, and the calls behind it count anew. */
    private static void undoneIsGone() {
        ValveRoom x = new ValveRoom();
        for (int i = 1; i <= 6; i++) {
            x.setOutside(i);
        }
        x.undo();
        x.undo();
        CHECKS.same("four are left", x.undoCount(), 4);
        x.setOutside(77);
        CHECKS.same("five", x.undoCount(), 5);
        x.undo();
        CHECKS.same("ahead of it", x.property(3), 4);
        x.undo();
        CHECKS.same("ahead of the fourth", x.property(3), 3);
        for (int i = 11; i <= 16; i++) {
            x.setOutside(i);
        }
        CHECKS.same("six of nine", x.undoCount(), 6);
        for (int i = 15; i >= 11; i--) {
            x.undo();
            CHECKS.same("outside", x.property(3), i);
        }
        CHECKS.same("the last undo()", x.undo(), 0);
        CHECKS.same("outside", x.property(3), 3);
    }

    /** "each call of tick()": so many ticks as it makes */
    private static void ticksAreOneCall() {
        ValveRoom x = house();
        String before = Whole.state(x);
        x.tick(200);
        CHECKS.same("200 ticks", x.undoCount(), 2);
        x.undo();
        CHECKS.same("undone at once", Whole.state(x), before);
    }

    /** "restores everything": the last of six rooms, of twenty plans and of 48 entries, too */
    private static void fullListsComeBack() {
        StringBuilder full = new StringBuilder("room z temp 1;");
        for (char name = 'a'; name < 'f'; name++) {
            full.append("room ").append(name).append(" temp 1;");
        }
        full.append("program e 0:200");
        for (int tick = 1; tick < 48; tick++) {
            full.append(',').append(tick).append(':').append(200 + tick);
        }
        for (int way = 0; way < 3; way++) {
            ValveRoom x = fullHouse();
            Checks.load(x, full + ";");
            CHECKS.same("the last entry of another house", x.entry(5, 47), 47247);
            comeBack(x, way);
            ValveRoom y = fullHouse();
            Checks.load(y, "room z temp 1;" + "plan 7 z open;".repeat(20));
            CHECKS.same("time of the last plan of another house", y.planned(19, 0), 7);
            CHECKS.same("its room", y.planned(19, 1), 0);
            CHECKS.same("its kind", y.planned(19, 2), 0);
            comeBack(y, way);
        }
    }

    /** Six rooms, twenty plans, a program of 48 entries; the same in slot 1. */
    private static ValveRoom fullHouse() {
        ValveRoom x = Checks.house(Checks.sixRooms("") + "back 7;");
        for (int tick = 0; tick < 48; tick++) {
            x.setProgram(5, tick, 100 + tick);
        }
        for (int i = 0; i < 20; i++) {
            x.plan(100 + i, (i + 3) % 6, (i + 2) % 4);
        }
        x.keep(1);
        return x;
    }

    /** Behind a load(), the full house comes back by undo(), by restore(), or by undo() of both. */
    private static void comeBack(ValveRoom x, int way) {
        switch (way) {
            case 0: CHECKS.same("undo() of load()", x.undo(), 5); break;
            case 1: CHECKS.same("restore() behind load()", x.restore(1), 0); break;
            default:
                x.restore(1);
                CHECKS.same("undo() of restore()", x.undo(), 5);
                CHECKS.same("undo() of load() behind it", x.undo(), 4);
        }
        CHECKS.same("six rooms", x.property(0), 6);
        CHECKS.same("twenty plans", x.property(4), 20);
        for (int i = 0; i < 20; i++) {
            CHECKS.same("time of plan " + i, x.planned(i, 0), 100 + i);
            CHECKS.same("room of plan " + i, x.planned(i, 1), (i + 3) % 6);
            CHECKS.same("kind of plan " + i, x.planned(i, 2), (i + 2) % 4);
        }
        for (int tick = 0; tick < 48; tick++) {
            CHECKS.same("entry " + tick, x.entry(5, tick), 1000 * tick + 100 + tick);
        }
        for (int room = 0; room < 6; room++) {
            CHECKS.same("temperature of room " + room, x.room(room, 0), 200);
            CHECKS.same("power of room " + room, x.room(room, 3), 1);
        }
        Checks.type(x, "f");
        CHECKS.same("the name of the last", x.find(), 5);
    }

    /** "slot: 0 or 1"; "Throws IndexOutOfBoundsException if there is no such slot" */
    private static void slotsThatExist() {
        int[] none = {Integer.MIN_VALUE, -1, 2, 3, Integer.MAX_VALUE};
        for (int slot : none) {
            CHECKS.outOfIndex("keep(" + slot + ")", () -> house().keep(slot));
            CHECKS.outOfIndex("restore(" + slot + ")", () -> house().restore(slot));
            CHECKS.outOfIndex("keep(" + slot + ") of a new object", () -> new ValveRoom().keep(slot));
            CHECKS.outOfIndex("restore(" + slot + ") of a new object", () -> new ValveRoom().restore(slot));
        }
        for (int slot = 0; slot < 2; slot++) {
            ValveRoom x = Checks.house(HOUSE);
            CHECKS.same("keep(" + slot + ")", x.keep(slot), 0);
            x.tick(1);
            CHECKS.same("restore(" + slot + ")", x.restore(slot), 0);
            int other = 1 - slot;
            CHECKS.inWrongState("restore() of the other slot", () -> x.restore(other));
        }
    }

    /** "Throws IllegalStateException if nothing is kept there" */
    private static void nothingKept() {
        ValveRoom x = new ValveRoom();
        CHECKS.inWrongState("restore(0) of a new object", () -> x.restore(0));
        CHECKS.inWrongState("restore(1) of a new object", () -> x.restore(1));
        Checks.load(x, HOUSE);
        CHECKS.inWrongState("restore(0) behind load()", () -> x.restore(0));
        x.keep(0);
        x.undo();
        CHECKS.same("what is kept stays behind undo()", x.restore(0), 0);
        CHECKS.same("its rooms", x.property(0), 2);
        CHECKS.inWrongState("restore(1) still", () -> x.restore(1));
        CHECKS.same("a refused restore() is not to undo", x.undoCount(), 1);
    }

    /** "in place of what was there" */
    private static void inPlaceOfWhatWasThere() {
        ValveRoom x = Checks.house(HOUSE);
        x.keep(0);
        x.keep(1);
        x.tick(5);
        String kept = Whole.state(x);
        CHECKS.same("keep(0) again", x.keep(0), 5);
        x.tick(5);
        CHECKS.same("restore(1) of the first", x.restore(1), 0);
        CHECKS.same("restore(0) of the second", x.restore(0), 5);
        CHECKS.same("all of it", Whole.state(x), kept);
        // A house of fewer rooms and plans in place of a larger one
        Checks.load(x, "room c temp 7;");
        x.keep(0);
        Checks.load(x, HOUSE);
        x.restore(0);
        CHECKS.same("one room", x.property(0), 1);
        CHECKS.same("no plans", x.property(4), 0);
        CHECKS.outOfIndex("no second room", () -> x.room(1, 0));
        CHECKS.same("what is written of it", Checks.output(x, x.writeRooms()), "c:7>200/0");
    }

    /** "Makes everything as it was kept in a slot, which keeps it." */
    private static void whichKeepsIt() {
        Step[] changes = {step("tick()", y -> y.tick(100)), step("setProgram()", y -> y.setProgram(0, 5, 60)),
            step("plan()", y -> y.plan(5, 1, 0)), step("turn()", y -> y.turn(0, 99)), step("undo()", y -> y.undo()),
            step("load()", y -> Checks.load(y, "room z temp 1;")), step("keep() elsewhere", y -> y.keep(0))};
        for (Step change : changes) {
            ValveRoom x = Checks.house(HOUSE);
            x.tick(4);
            x.keep(1);
            String kept = Whole.state(x);
            for (int i = 0; i < 2; i++) {
                change.on(x);
                CHECKS.same("restore(1) behind " + change.name(), x.restore(1), 4);
                CHECKS.same("all of it behind " + change.name(), Whole.state(x), kept);
            }
        }
    }

    /** "everything that undo() restores, but what can be undone" */
    private static void butWhatCanBeUndone() {
        ValveRoom x = new ValveRoom();
        x.setOutside(1);
        x.setOutside(2);
        x.keep(0);
        CHECKS.same("keep() leaves what can be undone", x.undoCount(), 2);
        x.undo();
        x.undo();
        x.restore(0);
        CHECKS.same("restore() adds itself alone", x.undoCount(), 1);
        CHECKS.same("outside", x.property(3), 2);
        CHECKS.same("undo() of restore()", x.undo(), 0);
        CHECKS.same("outside", x.property(3), 50);
        ValveRoom y = new ValveRoom();
        y.keep(1);
        for (int i = 1; i <= 6; i++) {
            y.setOutside(i);
        }
        y.restore(1);
        CHECKS.same("of seven", y.undoCount(), 6);
        y.undo();
        CHECKS.same("what was ahead of it", y.property(3), 6);
        for (int i = 5; i >= 1; i--) {
            y.undo();
            CHECKS.same("and ahead of that", y.property(3), i);
        }
        CHECKS.inWrongState("the first is forgotten", () -> y.undo());
    }

    /** "On success everything but the two slots and the output buffer" */
    private static void keptAheadOfALoad() {
        ValveRoom x = Checks.house(HOUSE);
        x.tick(7);
        x.keep(0);
        String kept = Whole.state(x);
        Checks.load(x, "room z temp 1;");
        CHECKS.same("restore(0) behind load()", x.restore(0), 7);
        CHECKS.same("all of it", Whole.state(x), kept);
        x.undo();
        CHECKS.same("undo() of restore()", x.property(0), 1);
        x.undo();
        CHECKS.same("undo() of load()", Whole.state(x), kept);
        ValveRoom none = new ValveRoom();
        none.keep(1);
        Checks.load(none, HOUSE);
        CHECKS.same("restore(1) of no rooms", none.restore(1), 0);
        CHECKS.same("no rooms", none.property(0), 0);
        CHECKS.same("no plans", none.property(4), 0);
        CHECKS.same("the setback", none.property(7), 30);
        none.undo();
        CHECKS.same("the rooms again", none.property(0), 2);
    }

    /** "Returns the time."; "Returns the time then." */
    private static void theTimeThen() {
        ValveRoom x = new ValveRoom();
        CHECKS.same("keep(0) at 0", x.keep(0), 0);
        x.tick(1);
        CHECKS.same("keep(1) at 1", x.keep(1), 1);
        x.tick(200);
        CHECKS.same("keep(1) at 201", x.keep(1), 201);
        CHECKS.same("restore(0)", x.restore(0), 0);
        CHECKS.same("the time", x.property(1), 0);
        CHECKS.same("restore(1)", x.restore(1), 201);
        CHECKS.same("the time", x.property(1), 201);
        Checks.load(x, "room a temp 1;");
        CHECKS.same("keep(0) behind load()", x.keep(0), 0);
    }
}
