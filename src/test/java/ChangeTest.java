/** Promises 35 to 45: what can be changed, and what is refused. */
public final class ChangeTest {
    private static final Checks CHECKS = new Checks();

    public static void main(String[] arguments) {
        setProgram();
        clearProgram();
        override();
        setWindow();
        setPresent();
        plan();
        planLimits();
        dropPlan();
        setOutside();
        setControl();
        newBattery();
        turn();
        refusedChangesNothing();
        CHECKS.end();
    }

    private static ValveRoom house() {
        return Checks.house("back 25;room a temp 190 valve 7 battery 70;room b temp 150;program a 10:180,20:210;");
    }

    private static void setProgram() {
        ValveRoom x = house();
        CHECKS.same("a new entry", x.setProgram(0, 15, 160), -1);
        CHECKS.same("in place of one", x.setProgram(0, 10, 170), 180);
        CHECKS.same("in place of the last", x.setProgram(0, 20, 300), 210);
        CHECKS.same("at first", x.setProgram(0, 0, 50), -1);
        CHECKS.same("at last", x.setProgram(0, 47, 60), -1);
        int[] due = {50, 10170, 15160, 20300, 47060};
        for (int i = 0; i < due.length; i++) {
            CHECKS.same("entry(0, " + i + ")", x.entry(0, i), due[i]);
        }
        CHECKS.notThere("entry(0, 5)", () -> x.entry(0, 5));
        CHECKS.same("a new program", x.setProgram(1, 30, 100), -1);
        CHECKS.same("its target", x.target(1), 100);
        CHECKS.outOfIndex("setProgram(2, 48, 49)", () -> x.setProgram(2, 48, 49));
        CHECKS.outOfIndex("setProgram(-1, 0, 100)", () -> x.setProgram(-1, 0, 100));
        CHECKS.outOfRange("setProgram(0, -1, 100)", () -> x.setProgram(0, -1, 100));
        CHECKS.outOfRange("setProgram(0, 48, 100)", () -> x.setProgram(0, 48, 100));
        CHECKS.outOfRange("setProgram(0, 0, 49)", () -> x.setProgram(0, 0, 49));
        CHECKS.outOfRange("setProgram(0, 0, 301)", () -> x.setProgram(0, 0, 301));
    }

    private static void clearProgram() {
        ValveRoom x = Checks.house("room a temp 190;room b temp 150;program a 10:180,20:210,0:100;");
        CHECKS.same("in the middle", x.clearProgram(0, 10), 2);
        CHECKS.same("the target at 10", x.programmed(0, 10), 100);
        CHECKS.same("the entry behind", x.entry(0, 1), 20210);
        CHECKS.notThere("clearProgram(0, 10) again", () -> x.clearProgram(0, 10));
        CHECKS.same("the last", x.clearProgram(0, 20), 1);
        CHECKS.same("the only one", x.clearProgram(0, 0), 0);
        CHECKS.same("no program", x.programmed(0, 0), 200);
        CHECKS.notThere("clearProgram(0, 0)", () -> x.clearProgram(0, 0));
        x.setProgram(0, 47, 90);
        CHECKS.same("clearProgram(0, 47)", x.clearProgram(0, 47), 0);
        for (int tick = 0; tick < 48; tick++) {
            x.setProgram(0, tick, 100 + tick);
        }
        CHECKS.same("of 48", x.clearProgram(0, 0), 47);
        CHECKS.same("the first then", x.entry(0, 0), 1101);
        CHECKS.same("the last then", x.entry(0, 46), 47147);
        CHECKS.notThere("clearProgram(1, 0)", () -> x.clearProgram(1, 0));
        CHECKS.outOfIndex("clearProgram(2, 48)", () -> x.clearProgram(2, 48));
        CHECKS.outOfIndex("clearProgram(-1, 0)", () -> x.clearProgram(-1, 0));
        CHECKS.outOfRange("clearProgram(0, -1)", () -> x.clearProgram(0, -1));
        CHECKS.outOfRange("clearProgram(0, 48)", () -> x.clearProgram(0, 48));
    }

    private static void override() {
        ValveRoom x = house();
        CHECKS.same("override(0, 250, 500)", x.override(0, 250, 500), 250);
        CHECKS.same("its ticks", x.room(0, 9), 500);
        CHECKS.same("override(0, 50, 1)", x.override(0, 50, 1), 50);
        CHECKS.same("its ticks", x.room(0, 9), 1);
        CHECKS.same("override(0, 300, 0)", x.override(0, 300, 0), 210);
        CHECKS.same("none", x.room(0, 8), -1);
        CHECKS.same("its ticks", x.room(0, 9), 0);
        x.setPresent(1, false);
        CHECKS.same("override(1, 300, 0) with nobody there", x.override(1, 300, 0), 175);
        CHECKS.same("override(1, 300, 1) with nobody there", x.override(1, 300, 1), 300);
        CHECKS.outOfIndex("override(2, 49, 501)", () -> x.override(2, 49, 501));
        CHECKS.outOfIndex("override(-1, 100, 1)", () -> x.override(-1, 100, 1));
        CHECKS.outOfRange("override(0, 49, 1)", () -> x.override(0, 49, 1));
        CHECKS.outOfRange("override(0, 301, 0)", () -> x.override(0, 301, 0));
        CHECKS.outOfRange("override(0, 100, -1)", () -> x.override(0, 100, -1));
        CHECKS.outOfRange("override(0, 100, 501)", () -> x.override(0, 100, 501));
    }

    private static void setWindow() {
        ValveRoom x = house();
        CHECKS.that("shut before", !x.setWindow(0, true));
        CHECKS.same("open", x.room(0, 5), 1);
        CHECKS.that("open before", x.setWindow(0, true));
        CHECKS.that("still open before", x.setWindow(0, false));
        CHECKS.same("shut", x.room(0, 5), 0);
        CHECKS.that("shut before", !x.setWindow(0, false));
        CHECKS.same("the other", x.room(1, 5), 0);
        CHECKS.same("no plan", x.count(0, 3), 0);
        CHECKS.same("not seen", x.count(0, 1), 0);
        CHECKS.outOfIndex("setWindow(2, true)", () -> x.setWindow(2, true));
        CHECKS.outOfIndex("setWindow(-1, true)", () -> x.setWindow(-1, true));
    }

    private static void setPresent() {
        ValveRoom x = house();
        CHECKS.same("nobody there", x.setPresent(0, false), 185);
        CHECKS.same("room(0, 6)", x.room(0, 6), 0);
        CHECKS.same("still nobody", x.setPresent(0, false), 185);
        CHECKS.same("somebody", x.setPresent(0, true), 210);
        CHECKS.same("room(0, 6)", x.room(0, 6), 1);
        x.override(1, 100, 3);
        CHECKS.same("with an override", x.setPresent(1, false), 100);
        CHECKS.outOfIndex("setPresent(2, true)", () -> x.setPresent(2, true));
        CHECKS.outOfIndex("setPresent(-1, true)", () -> x.setPresent(-1, true));
    }

    private static void plan() {
        ValveRoom x = house();
        CHECKS.same("the first", x.plan(5, 0, ValveRoom.OPEN), 0);
        CHECKS.same("later", x.plan(7, 0, ValveRoom.CLOSE), 1);
        CHECKS.same("earlier", x.plan(1, 1, ValveRoom.COME), 0);
        CHECKS.same("at the same time", x.plan(5, 1, ValveRoom.GO), 2);
        CHECKS.same("latest", x.plan(9999, 1, ValveRoom.GO), 4);
        int[][] due = {{1, 1, 2}, {5, 0, 0}, {5, 1, 3}, {7, 0, 1}, {9999, 1, 3}};
        for (int i = 0; i < due.length; i++) {
            for (int what = 0; what < 3; what++) {
                CHECKS.same("planned(" + i + ", " + what + ")", x.planned(i, what), due[i][what]);
            }
        }
        CHECKS.same("plans", x.property(4), 5);
    }

    private static void planLimits() {
        ValveRoom x = house();
        CHECKS.outOfIndex("plan(0, 2, 4)", () -> x.plan(0, 2, 4));
        CHECKS.outOfIndex("plan(1, -1, 0)", () -> x.plan(1, -1, 0));
        CHECKS.outOfRange("plan(0, 0, 0)", () -> x.plan(0, 0, 0));
        CHECKS.outOfRange("plan(-5, 0, 0)", () -> x.plan(-5, 0, 0));
        CHECKS.outOfRange("plan(10000, 0, 0)", () -> x.plan(10000, 0, 0));
        CHECKS.outOfRange("plan(1, 0, 4)", () -> x.plan(1, 0, 4));
        CHECKS.outOfRange("plan(1, 0, -1)", () -> x.plan(1, 0, -1));
        x.tick(10);
        CHECKS.outOfRange("plan(10, 0, 0) at 10", () -> x.plan(10, 0, 0));
        CHECKS.outOfRange("plan(10010, 0, 0) at 10", () -> x.plan(10010, 0, 0));
        CHECKS.same("plan(10009, 0, 0) at 10", x.plan(10009, 0, 0), 0);
        for (int i = 0; i < 19; i++) {
            CHECKS.same("plan(11, 1, 1) " + i, x.plan(11, 1, 1), i);
        }
        CHECKS.same("twenty", x.property(4), 20);
        CHECKS.inWrongState("plan(11, 0, 0) behind twenty", () -> x.plan(11, 0, 0));
        CHECKS.outOfRange("plan(10, 0, 0) behind twenty", () -> x.plan(10, 0, 0));
        CHECKS.outOfRange("plan(11, 0, 4) behind twenty", () -> x.plan(11, 0, 4));
        CHECKS.outOfIndex("plan(10, 2, 4) behind twenty", () -> x.plan(10, 2, 4));
        x.dropPlan(0);
        CHECKS.same("the twentieth again", x.plan(11, 0, 0), 18);
        x.tick(1);
        CHECKS.same("one left", x.property(4), 1);
        CHECKS.same("carried out", x.count(0, 3) + x.count(1, 3), 19);
    }

    private static void dropPlan() {
        ValveRoom x = Checks.house("room a temp 1;room b temp 1;plan 4 a go;plan 4 b open;plan 6 a open;plan 2 b go;");
        CHECKS.outOfIndex("dropPlan(4)", () -> x.dropPlan(4));
        CHECKS.outOfIndex("dropPlan(-1)", () -> x.dropPlan(-1));
        CHECKS.same("dropPlan(1)", x.dropPlan(1), 3);
        CHECKS.same("the first stays", x.planned(0, 0), 2);
        CHECKS.same("the other of its time moves up", x.planned(1, 1), 1);
        CHECKS.same("the last moves up", x.planned(2, 0), 6);
        CHECKS.same("dropPlan(2)", x.dropPlan(2), 2);
        CHECKS.same("dropPlan(0)", x.dropPlan(0), 1);
        CHECKS.same("what is left", x.planned(0, 2), ValveRoom.OPEN);
        CHECKS.same("dropPlan(0) again", x.dropPlan(0), 0);
        CHECKS.outOfIndex("dropPlan(0) without plans", () -> x.dropPlan(0));
        x.tick(9);
        CHECKS.same("none carried out", x.sum(3), 0);
    }

    private static void setOutside() {
        ValveRoom x = house();
        CHECKS.same("setOutside(-300)", x.setOutside(-300), 50);
        CHECKS.same("setOutside(400)", x.setOutside(400), -300);
        CHECKS.same("outside", x.property(3), 400);
        CHECKS.outOfRange("setOutside(401)", () -> x.setOutside(401));
        CHECKS.outOfRange("setOutside(-301)", () -> x.setOutside(-301));
    }

    private static void setControl() {
        ValveRoom x = house();
        CHECKS.same("setControl(50, 50, 100)", x.setControl(50, 50, 100), 305020);
        CHECKS.same("setControl(0, 1, 1)", x.setControl(0, 1, 1), 5050100);
        CHECKS.same("setControl(2, 3, 4)", x.setControl(2, 3, 4), 1001);
        CHECKS.same("the band", x.property(8), 2);
        CHECKS.same("the gain", x.property(9), 3);
        CHECKS.same("the speed", x.property(10), 4);
        int[][] wrong = {{-1, 1, 1}, {51, 1, 1}, {0, 0, 1}, {0, 51, 1}, {0, 1, 0}, {0, 1, 101}};
        for (int[] one : wrong) {
            CHECKS.outOfRange("setControl(" + one[0] + ", " + one[1] + ", " + one[2] + ")",
                    () -> x.setControl(one[0], one[1], one[2]));
        }
        CHECKS.same("as before", x.setControl(2, 3, 4), 203004);
    }

    private static void newBattery() {
        ValveRoom x = house();
        CHECKS.same("newBattery(0, 9999)", x.newBattery(0, 9999), 70);
        CHECKS.same("newBattery(0, 1)", x.newBattery(0, 1), 9999);
        CHECKS.same("the battery", x.room(0, 2), 1);
        CHECKS.same("the other's", x.room(1, 2), 1000);
        CHECKS.outOfIndex("newBattery(2, 0)", () -> x.newBattery(2, 0));
        CHECKS.outOfIndex("newBattery(-1, 1)", () -> x.newBattery(-1, 1));
        CHECKS.outOfRange("newBattery(0, 0)", () -> x.newBattery(0, 0));
        CHECKS.outOfRange("newBattery(0, 10000)", () -> x.newBattery(0, 10000));
    }

    private static void turn() {
        ValveRoom x = house();
        CHECKS.same("turn(0, 100)", x.turn(0, 100), 7);
        CHECKS.same("turn(0, 0)", x.turn(0, 0), 100);
        CHECKS.same("turn(0, 55)", x.turn(0, 55), 0);
        CHECKS.same("the valve", x.room(0, 1), 55);
        CHECKS.same("no step", x.count(0, 0), 0);
        CHECKS.same("no cost", x.room(0, 2), 70);
        CHECKS.outOfIndex("turn(2, 101)", () -> x.turn(2, 101));
        CHECKS.outOfIndex("turn(-1, 1)", () -> x.turn(-1, 1));
        CHECKS.outOfRange("turn(0, -1)", () -> x.turn(0, -1));
        CHECKS.outOfRange("turn(0, 101)", () -> x.turn(0, 101));
    }

    private static void refusedChangesNothing() {
        ValveRoom x = house();
        x.plan(5, 0, 0);
        x.tick(3);
        String before = Checks.all(x);
        int undoable = x.undoCount();
        CHECKS.outOfRange("tick(201)", () -> x.tick(201));
        CHECKS.outOfRange("setProgram(0, 0, 301)", () -> x.setProgram(0, 0, 301));
        CHECKS.notThere("clearProgram(0, 0)", () -> x.clearProgram(0, 0));
        CHECKS.outOfRange("override(0, 100, 501)", () -> x.override(0, 100, 501));
        CHECKS.outOfIndex("setWindow(2, true)", () -> x.setWindow(2, true));
        CHECKS.outOfIndex("setPresent(2, true)", () -> x.setPresent(2, true));
        CHECKS.outOfRange("plan(4, 0, 4)", () -> x.plan(4, 0, 4));
        CHECKS.outOfIndex("dropPlan(1)", () -> x.dropPlan(1));
        CHECKS.outOfRange("setOutside(401)", () -> x.setOutside(401));
        CHECKS.outOfRange("setControl(0, 1, 0)", () -> x.setControl(0, 1, 0));
        CHECKS.outOfRange("newBattery(0, 0)", () -> x.newBattery(0, 0));
        CHECKS.outOfRange("turn(0, 101)", () -> x.turn(0, 101));
        CHECKS.outOfIndex("keep(2)", () -> x.keep(2));
        CHECKS.inWrongState("restore(0)", () -> x.restore(0));
        CHECKS.same("behind refused calls", Checks.all(x), before);
        CHECKS.same("undoCount() behind refused calls", x.undoCount(), undoable);
    }
}
