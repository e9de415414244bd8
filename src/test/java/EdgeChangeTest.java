/** Promises 35 to 45, at the edges that their sentences name. What a refused call leaves, RefusedTest looks at. */
public final class EdgeChangeTest {
    private static final Checks CHECKS = new Checks();
    private static final int LEAST = Integer.MIN_VALUE;
    private static final int GREATEST = Integer.MAX_VALUE;
    private static final String A = "room a temp 200 power 1 loss 0;";
    private static final String B = "room b temp 200 power 1 loss 0;";

    private interface Change {
        void of(ValveRoom x, int value);
    }

    public static void main(String[] arguments) {
        roomsToChange();
        ticksAndTargetsOfAProgram();
        atJustThisTick();
        fullProgram();
        droppedToNone();
        noSuchTick();
        ticksOfAnOverride();
        withZeroNoOverride();
        openOrShut();
        thereOrNot();
        laterThanTheTime();
        kindsOfPlans();
        behindAllOthersOfItsTime();
        twentyToCome();
        plansToDrop();
        outside();
        control();
        charge();
        position();
        upTo512Calls();
        CHECKS.end();
    }

    private static void refuses(String name, int[] wrong, Change change) {
        ValveRoom x = Checks.house(A + B);
        for (int value : wrong) {
            CHECKS.outOfRange(name + " of " + value, () -> change.of(x, value));
        }
        CHECKS.same(name + " refused is not to undo", x.undoCount(), 1);
    }

    /** "Throws IndexOutOfBoundsException if there is no such room" */
    private static void roomsToChange() {
        changesRoom("setProgram", (x, room) -> x.setProgram(room, 0, 100));
        changesRoom("clearProgram", (x, room) -> {
            x.setProgram(room, 0, 100);
            x.clearProgram(room, 0);
        });
        changesRoom("override", (x, room) -> x.override(room, 100, 1));
        changesRoom("setWindow", (x, room) -> x.setWindow(room, true));
        changesRoom("setPresent", (x, room) -> x.setPresent(room, true));
        changesRoom("plan", (x, room) -> x.plan(1, room, 0));
        changesRoom("newBattery", (x, room) -> x.newBattery(room, 1));
        changesRoom("turn", (x, room) -> x.turn(room, 1));
        ValveRoom x = Checks.house(A);
        CHECKS.outOfIndex("clearProgram(1, 0)", () -> x.clearProgram(1, 0));
        CHECKS.outOfIndex("clearProgram(-1, 48)", () -> x.clearProgram(-1, 48));
    }

    private static void changesRoom(String name, Change change) {
        for (int many = 0; many <= 6; many++) {
            StringBuilder text = new StringBuilder("back 1;");
            for (int i = 0; i < many; i++) {
                text.append("room ").append((char) ('a' + i)).append(" temp 1;");
            }
            ValveRoom x = many == 0 ? new ValveRoom() : Checks.house(text.toString());
            for (int room = 0; room < many; room++) {
                change.of(x, room);
            }
            int undoable = x.undoCount();
            int[] none = {LEAST, -1, many, 6, GREATEST};
            for (int room : none) {
                CHECKS.outOfIndex(name + " in room " + room + " of " + many, () -> change.of(x, room));
            }
            CHECKS.same(name + " in no room is not to undo", x.undoCount(), undoable);
        }
    }

    // ---- programs

    /** "tick: 0 to 47"; "target: 50 to 300" */
    private static void ticksAndTargetsOfAProgram() {
        int[] ticks = {0, 1, 46, 47};
        int[] targets = {50, 51, 299, 300};
        for (int tick : ticks) {
            for (int target : targets) {
                ValveRoom x = Checks.house(A + B);
                CHECKS.same("setProgram(1, " + tick + ", " + target + ")", x.setProgram(1, tick, target), -1);
                CHECKS.same("its entry", x.entry(1, 0), 1000 * tick + target);
                CHECKS.same("its target", x.target(1), target);
                CHECKS.same("the other room's", x.target(0), 200);
                CHECKS.same("clearProgram(1, " + tick + ")", x.clearProgram(1, tick), 0);
            }
        }
        int[] wrongTicks = {LEAST, -1, 48, GREATEST};
        refuses("setProgram at a tick", wrongTicks, (x, tick) -> x.setProgram(0, tick, 100));
        refuses("clearProgram at a tick", wrongTicks, (x, tick) -> x.clearProgram(0, tick));
        refuses("setProgram of a target", new int[] {LEAST, 0, 49, 301, GREATEST}, (x, target) -> x.setProgram(0, 0, target));
    }

    /** "the target before at just this tick of the program; NONE if there was none" */
    private static void atJustThisTick() {
        ValveRoom x = Checks.house(A + "program a 10:50,12:300;");
        CHECKS.same("one earlier", x.setProgram(0, 9, 100), -1);
        CHECKS.same("between two", x.setProgram(0, 11, 110), -1);
        CHECKS.same("one later", x.setProgram(0, 13, 120), -1);
        CHECKS.same("just at 10", x.setProgram(0, 10, 60), 50);
        CHECKS.same("just at 12", x.setProgram(0, 12, 290), 300);
        CHECKS.same("just at 10 again, alike", x.setProgram(0, 10, 60), 60);
        int[] due = {9100, 10060, 11110, 12290, 13120};
        for (int i = 0; i < due.length; i++) {
            CHECKS.same("entry(0, " + i + ")", x.entry(0, i), due[i]);
        }
        CHECKS.notThere("entry(0, 5)", () -> x.entry(0, 5));
        CHECKS.same("the first", x.setProgram(0, 0, 70), -1);
        CHECKS.same("the last", x.setProgram(0, 47, 80), -1);
        CHECKS.same("the first again", x.setProgram(0, 0, 71), 70);
        CHECKS.same("the last again", x.setProgram(0, 47, 81), 80);
        CHECKS.same("seven", x.entry(0, 6), 47081);
    }

    /** A program has at most an entry for each tick of the day: "in place of what its program tells there" */
    private static void fullProgram() {
        int[] firsts = {0, 1, 24, 47};
        for (int first : firsts) {
            ValveRoom x = Checks.house(A);
            for (int i = 0; i < 48; i++) {
                CHECKS.same("a new one", x.setProgram(0, (first + i) % 48, 100), -1);
            }
            for (int i = 0; i < 48; i++) {
                CHECKS.same("in place of one", x.setProgram(0, (first + 47 * i) % 48, 200), 100);
            }
            for (int i = 0; i < 48; i++) {
                CHECKS.same("entry(0, " + i + ")", x.entry(0, i), 1000 * i + 200);
            }
            CHECKS.notThere("a 49th", () -> x.entry(0, 48));
            for (int i = 0; i < 48; i++) {
                CHECKS.same("what is left", x.clearProgram(0, (first + i) % 48), 47 - i);
            }
            CHECKS.same("without a program", x.programmed(0, first), 200);
        }
    }

    /** "without entries there is no program" */
    private static void droppedToNone() {
        ValveRoom x = Checks.house(A + "program a 5:60,7:80;");
        CHECKS.same("one is left", x.clearProgram(0, 7), 1);
        CHECKS.same("its target", x.target(0), 60);
        CHECKS.same("none is left", x.clearProgram(0, 5), 0);
        CHECKS.same("no program", x.target(0), 200);
        CHECKS.notThere("no entry", () -> x.entry(0, 0));
        CHECKS.same("nothing to write", x.writeProgram(0), 0);
        x.undo();
        CHECKS.same("undone", x.target(0), 60);
        ValveRoom y = Checks.house(A + "program a 0:60,1:70,46:80,47:90;");
        CHECKS.same("the first", y.clearProgram(0, 0), 3);
        CHECKS.same("the first then", y.entry(0, 0), 1070);
        CHECKS.same("the last", y.clearProgram(0, 47), 2);
        CHECKS.same("the last then", y.entry(0, 1), 46080);
        CHECKS.notThere("one behind it", () -> y.entry(0, 2));
    }

    /** "Throws NoSuchElementException if the program has no such tick" */
    private static void noSuchTick() {
        ValveRoom x = Checks.house(A + B + "program a 10:50,12:300;");
        for (int tick = 0; tick < 48; tick++) {
            int at = tick;
            if (tick != 10 && tick != 12) {
                CHECKS.notThere("clearProgram(0, " + tick + ")", () -> x.clearProgram(0, at));
            }
            CHECKS.notThere("clearProgram(1, " + tick + ") without a program", () -> x.clearProgram(1, at));
        }
        CHECKS.same("the entries stay", x.entry(0, 1), 12300);
        CHECKS.same("nothing to undo", x.undoCount(), 1);
        x.clearProgram(0, 10);
        CHECKS.notThere("clearProgram(0, 10) again", () -> x.clearProgram(0, 10));
        CHECKS.outOfRange("clearProgram(1, 48) without a program", () -> x.clearProgram(1, 48));
    }

    // ---- overrides, windows, who is there

    /** "target: 50 to 300"; "ticks: 0 to 500" */
    private static void ticksOfAnOverride() {
        int[] targets = {50, 51, 299, 300};
        int[] ticks = {1, 2, 499, 500};
        for (int target : targets) {
            for (int many : ticks) {
                ValveRoom x = Checks.house(A + B);
                CHECKS.same("override(1, " + target + ", " + many + ")", x.override(1, target, many), target);
                CHECKS.same("its target", x.room(1, 8), target);
                CHECKS.same("its ticks", x.room(1, 9), many);
                CHECKS.same("the other room's", x.room(0, 8), -1);
            }
        }
        int[] wrongTargets = {LEAST, -1, 0, 49, 301, GREATEST};
        refuses("override of a target", wrongTargets, (x, target) -> x.override(0, target, 1));
        refuses("override of a target with 0", wrongTargets, (x, target) -> x.override(0, target, 0));
        refuses("override of ticks", new int[] {LEAST, -1, 501, GREATEST}, (x, many) -> x.override(0, 100, many));
    }

    /** "with 0 it has no override"; "Returns its target then." */
    private static void withZeroNoOverride() {
        ValveRoom x = Checks.house("back 7;" + A + "program a 0:150;");
        CHECKS.same("none, and none behind it", x.override(0, 50, 0), 150);
        CHECKS.same("none", x.room(0, 8), -1);
        CHECKS.same("one", x.override(0, 50, 500), 50);
        CHECKS.same("another in its place", x.override(0, 60, 1), 60);
        CHECKS.same("its ticks", x.room(0, 9), 1);
        CHECKS.same("with 0", x.override(0, 300, 0), 150);
        CHECKS.same("none again", x.room(0, 8), -1);
        CHECKS.same("no ticks", x.room(0, 9), 0);
        x.setPresent(0, false);
        CHECKS.same("with 0 and nobody there", x.override(0, 300, 0), 143);
        x.tick(1);
        CHECKS.same("still none", x.room(0, 9), 0);
    }

    /** "whether its window is open from now on"; "whether it was before" */
    private static void openOrShut() {
        ValveRoom x = Checks.house(A + B);
        CHECKS.that("shut at first", !x.setWindow(1, false));
        CHECKS.that("shut, and opened", !x.setWindow(1, true));
        CHECKS.that("open, and opened", x.setWindow(1, true));
        CHECKS.same("open", x.room(1, 5), 1);
        CHECKS.same("the other", x.room(0, 5), 0);
        CHECKS.that("open, and shut", x.setWindow(1, false));
        CHECKS.that("shut, and shut", !x.setWindow(1, false));
        CHECKS.same("each can be undone", x.undoCount(), 6);
    }

    /** "whether somebody is there from now on"; "Returns its target then." */
    private static void thereOrNot() {
        ValveRoom x = Checks.house("back 150;" + A + B + "program b 0:50;");
        CHECKS.same("there at first", x.setPresent(1, true), 50);
        CHECKS.same("gone", x.setPresent(1, false), -100);
        CHECKS.same("gone, and gone", x.setPresent(1, false), -100);
        CHECKS.same("the other", x.target(0), 200);
        CHECKS.same("there again", x.setPresent(1, true), 50);
        CHECKS.same("each can be undone", x.undoCount(), 5);
    }

    // ---- plans

    /** "later than the time so far, by 9999 at most" */
    private static void laterThanTheTime() {
        int[] times = {0, 1, 48, 200};
        for (int time : times) {
            ValveRoom x = Checks.house(A);
            if (time > 0) {
                x.tick(time);
            }
            int[] wrong = {LEAST, -1, 0, time - 1, time, time + 10000, time + 10001, GREATEST};
            for (int one : wrong) {
                CHECKS.outOfRange("plan at " + one + " at the time " + time, () -> x.plan(one, 0, 0));
            }
            CHECKS.same("none of them", x.property(4), 0);
            CHECKS.same("the latest", x.plan(time + 9999, 0, 0), 0);
            CHECKS.same("the latest but one", x.plan(time + 9998, 0, 0), 0);
            CHECKS.same("the earliest", x.plan(time + 1, 0, 0), 0);
            CHECKS.same("the earliest but one", x.plan(time + 2, 0, 0), 1);
            CHECKS.same("the time of the last", x.planned(3, 0), time + 9999);
            CHECKS.same("the time of the first", x.planned(0, 0), time + 1);
        }
    }

    /** "kind: OPEN, CLOSE, COME or GO" */
    private static void kindsOfPlans() {
        int[] kinds = {ValveRoom.OPEN, ValveRoom.CLOSE, ValveRoom.COME, ValveRoom.GO};
        for (int kind : kinds) {
            ValveRoom x = Checks.house(A);
            x.setWindow(0, kind == ValveRoom.CLOSE);
            x.setPresent(0, kind == ValveRoom.GO);
            CHECKS.same("plan of " + kind, x.plan(1, 0, kind), 0);
            CHECKS.same("its kind", x.planned(0, 2), kind);
            x.tick(1);
            CHECKS.same("open behind " + kind, x.room(0, 5), kind == ValveRoom.OPEN ? 1 : 0);
            CHECKS.same("there behind " + kind, x.room(0, 6), kind == ValveRoom.COME ? 1 : 0);
        }
        refuses("plan of a kind", new int[] {LEAST, -1, 4, 5, GREATEST}, (x, kind) -> x.plan(1, 0, kind));
    }

    /** "Tells a plan behind all others of its time."; "Returns its index" */
    private static void behindAllOthersOfItsTime() {
        ValveRoom x = Checks.house(A + B + "plan 5 a open;plan 5 b open;plan 7 a open;");
        CHECKS.same("ahead of all", x.plan(4, 0, 1), 0);
        CHECKS.same("behind two of its time", x.plan(5, 0, 1), 3);
        CHECKS.same("between the times", x.plan(6, 1, 2), 4);
        CHECKS.same("behind all", x.plan(7, 1, 3), 6);
        CHECKS.same("behind one of its time", x.plan(4, 1, 3), 1);
        int[][] due = {{4, 0, 1}, {4, 1, 3}, {5, 0, 0}, {5, 1, 0}, {5, 0, 1}, {6, 1, 2}, {7, 0, 0}, {7, 1, 3}};
        for (int i = 0; i < due.length; i++) {
            for (int what = 0; what < 3; what++) {
                CHECKS.same("planned(" + i + ", " + what + ")", x.planned(i, what), due[i][what]);
            }
        }
    }

    /** "Throws IllegalStateException if there are 20 plans to come" */
    private static void twentyToCome() {
        ValveRoom x = Checks.house(A + "plan 9 a go;".repeat(19));
        CHECKS.same("the twentieth, at last", x.plan(9, 0, 0), 19);
        CHECKS.inWrongState("a 21st", () -> x.plan(9, 0, 0));
        CHECKS.inWrongState("a 21st, ahead of all", () -> x.plan(1, 0, 0));
        CHECKS.inWrongState("a 21st, behind all", () -> x.plan(9999, 0, 3));
        CHECKS.same("still twenty", x.property(4), 20);
        CHECKS.same("only one to undo", x.undoCount(), 2);
        x.undo();
        CHECKS.same("the twentieth, at first", x.plan(8, 0, 0), 0);
        CHECKS.inWrongState("a 21st again", () -> x.plan(9, 0, 0));
        x.dropPlan(19);
        CHECKS.same("the twentieth, in place of a dropped one", x.plan(9, 0, 1), 19);
        x.tick(8);
        CHECKS.same("one carried out", x.property(4), 19);
        CHECKS.same("the twentieth, in place of it", x.plan(10, 0, 1), 19);
        CHECKS.inWrongState("a 21st once more", () -> x.plan(10, 0, 0));
        x.tick(1);
        CHECKS.same("one to come", x.property(4), 1);
        for (int i = 1; i < 20; i++) {
            CHECKS.same("twenty anew", x.plan(10, 0, 1), i);
        }
        CHECKS.inWrongState("a 21st at last", () -> x.plan(10, 0, 0));
    }

    /** "Throws IndexOutOfBoundsException if there is no such plan"; "how many are left" */
    private static void plansToDrop() {
        int[] none = {LEAST, -1, 0, 1, GREATEST};
        for (int index : none) {
            CHECKS.outOfIndex("dropPlan(" + index + ") of none", () -> Checks.house(A).dropPlan(index));
            CHECKS.outOfIndex("dropPlan(" + index + ") of a new house", () -> new ValveRoom().dropPlan(index));
        }
        int[] dropped = {0, 1, 10, 18, 19};
        for (int index : dropped) {
            ValveRoom x = Checks.house(A);
            for (int i = 0; i < 20; i++) {
                x.plan(i + 1, 0, i % 4);
            }
            CHECKS.outOfIndex("dropPlan(20) of twenty", () -> x.dropPlan(20));
            CHECKS.outOfIndex("dropPlan(-1) of twenty", () -> x.dropPlan(-1));
            CHECKS.same("dropPlan(" + index + ")", x.dropPlan(index), 19);
            for (int i = 0; i < 19; i++) {
                int from = i < index ? i : i + 1;
                CHECKS.same("time of " + i, x.planned(i, 0), from + 1);
                CHECKS.same("kind of " + i, x.planned(i, 2), from % 4);
            }
            CHECKS.outOfIndex("dropPlan(19) of nineteen", () -> x.dropPlan(19));
            CHECKS.outOfIndex("planned(19, 0) of nineteen", () -> x.planned(19, 0));
            x.tick(20);
            CHECKS.same("carried out but the dropped one", x.count(0, 3), 19);
        }
    }

    // ---- outside, control, batteries, valves

    /** "temperature: -300 to 400" */
    private static void outside() {
        int[] right = {-300, -299, -1, 0, 1, 399, 400};
        int before = 50;
        ValveRoom x = Checks.house(A);
        for (int temperature : right) {
            CHECKS.same("setOutside(" + temperature + ")", x.setOutside(temperature), before);
            CHECKS.same("outside", x.property(3), temperature);
            before = temperature;
        }
        refuses("setOutside", new int[] {LEAST, -301, 401, GREATEST}, (y, temperature) -> y.setOutside(temperature));
        CHECKS.same("without rooms", new ValveRoom().setOutside(400), 50);
    }

    /** "band: 0 to 50"; "gain: 1 to 50"; "speed: 1 to 100"; "100000 times the band before, plus 1000 times .." */
    private static void control() {
        int[][] right = {{0, 1, 1}, {50, 50, 100}, {1, 2, 2}, {49, 49, 99}, {0, 50, 1}, {50, 1, 100}, {0, 1, 100}};
        int before = 305020;
        ValveRoom x = new ValveRoom();
        for (int[] one : right) {
            CHECKS.same("setControl() to " + one[0] + " " + one[1] + " " + one[2], x.setControl(one[0], one[1], one[2]),
                    before);
            CHECKS.same("the band", x.property(8), one[0]);
            CHECKS.same("the gain", x.property(9), one[1]);
            CHECKS.same("the speed", x.property(10), one[2]);
            before = one[0] * 100000 + one[1] * 1000 + one[2];
        }
        refuses("setControl of a band", new int[] {LEAST, -1, 51, GREATEST}, (y, band) -> y.setControl(band, 1, 1));
        refuses("setControl of a gain", new int[] {LEAST, 0, 51, GREATEST}, (y, gain) -> y.setControl(0, gain, 1));
        refuses("setControl of a speed", new int[] {LEAST, 0, 101, GREATEST}, (y, speed) -> y.setControl(0, 1, speed));
        CHECKS.outOfRange("setControl(0, 1, 101) leaves it", () -> x.setControl(7, 7, 101));
        CHECKS.same("as before", x.setControl(1, 1, 1), before);
    }

    /** "charge: 1 to 9999" */
    private static void charge() {
        int[] right = {1, 2, 9998, 9999};
        int before = 1000;
        ValveRoom x = Checks.house(A + B);
        for (int charge : right) {
            CHECKS.same("newBattery(1, " + charge + ")", x.newBattery(1, charge), before);
            CHECKS.same("the battery", x.room(1, 2), charge);
            before = charge;
        }
        CHECKS.same("the other's", x.room(0, 2), 1000);
        refuses("newBattery", new int[] {LEAST, -1, 0, 10000, GREATEST}, (y, charge) -> y.newBattery(0, charge));
        CHECKS.same("in place of an empty one", Checks.house("room a temp 1 battery 0;").newBattery(0, 1), 0);
    }

    /** "position: 0 to 100"; "which costs nothing and counts as no step" */
    private static void position() {
        int[] right = {1, 99, 100, 0, 100};
        int before = 0;
        ValveRoom x = Checks.house(A + "room b temp 1 battery 0;");
        for (int position : right) {
            CHECKS.same("turn(1, " + position + ")", x.turn(1, position), before);
            CHECKS.same("the valve", x.room(1, 1), position);
            before = position;
        }
        CHECKS.same("no step", x.count(1, 0), 0);
        CHECKS.same("no cost", x.room(1, 2), 0);
        CHECKS.same("no tick with the battery at 0", x.count(1, 5), 0);
        CHECKS.same("no heat", x.room(1, 10), 0);
        CHECKS.same("the other's", x.room(0, 1), 0);
        refuses("turn", new int[] {LEAST, -1, 101, GREATEST}, (y, position) -> y.turn(0, position));
    }

    /** "An object is used for at most 512 calls after it has been made" */
    private static void upTo512Calls() {
        ValveRoom x = new ValveRoom();
        for (int call = 1; call <= 512; call++) {
            CHECKS.same("call " + call, x.setOutside(call % 400), call == 1 ? 50 : (call - 1) % 400);
        }
        ValveRoom y = new ValveRoom();
        for (int call = 1; call < 512; call += 2) {
            y.append(0x726f6f6d, 0x20612074, 0x656d7020, 0x3139303b, 0x20202020);
            CHECKS.same("call " + (call + 1), y.load(), 1);
        }
    }
}
