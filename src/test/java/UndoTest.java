/** Promises 46 to 49 and section 4: slots, and what can be undone. */
public final class UndoTest {
    private static final Checks CHECKS = new Checks();
    private static final String HOUSE = "outside 20;window 6 hold 2;back 40;control 2 4 15;exercise 9;"
            + "room a temp 190 power 12 loss 5 valve 30 battery 300;room b temp 150 loss 3;"
            + "program a 5:150,20:220;plan 3 a open;plan 60 a close;plan 12 b go;";

    private interface Change {
        void make(ValveRoom x);
    }

    public static void main(String[] arguments) {
        eachChange();
        noChange();
        lastSix();
        whatStays();
        loads();
        keep();
        restore();
        undoOfRestore();
        keptIsApart();
        CHECKS.end();
    }

    private static ValveRoom house() {
        ValveRoom x = Checks.house(HOUSE);
        x.override(0, 230, 7);
        x.tick(4);
        return x;
    }

    private static void undoes(String what, Change change) {
        ValveRoom x = house();
        String before = Checks.all(x);
        change.make(x);
        CHECKS.that(what + " changes something", !Checks.all(x).equals(before));
        CHECKS.same("undoCount() behind " + what, x.undoCount(), 4);
        CHECKS.same("undo() of " + what, x.undo(), 3);
        CHECKS.same("behind undo() of " + what, Checks.all(x), before);
        CHECKS.same("undoCount() behind undo() of " + what, x.undoCount(), 3);
    }

    private static void eachChange() {
        undoes("load()", x -> Checks.load(x, "room c temp 5;"));
        undoes("tick()", x -> x.tick(30));
        undoes("setProgram()", x -> x.setProgram(1, 7, 100));
        undoes("clearProgram()", x -> x.clearProgram(0, 5));
        undoes("override()", x -> x.override(0, 100, 100));
        undoes("setWindow()", x -> x.setWindow(1, true));
        undoes("setPresent()", x -> x.setPresent(0, false));
        undoes("plan()", x -> x.plan(10, 1, 2));
        undoes("dropPlan()", x -> x.dropPlan(0));
        undoes("setOutside()", x -> x.setOutside(-5));
        undoes("setControl()", x -> x.setControl(1, 1, 1));
        undoes("newBattery()", x -> x.newBattery(0, 9));
        undoes("turn()", x -> x.turn(1, 99));
        ValveRoom y = house();
        y.keep(0);
        y.tick(9);
        String before = Checks.all(y);
        y.restore(0);
        CHECKS.same("undo() of restore()", y.undo(), 4);
        CHECKS.same("behind undo() of restore()", Checks.all(y), before);
    }

    private static void noChange() {
        ValveRoom x = Checks.house("room a temp 190;program a 0:100;");
        x.setWindow(0, false);
        CHECKS.same("setWindow() as before", x.undoCount(), 2);
        x.setPresent(0, true);
        CHECKS.same("setPresent() as before", x.undoCount(), 3);
        x.override(0, 100, 0);
        CHECKS.same("override() as before", x.undoCount(), 4);
        x.setProgram(0, 0, 100);
        CHECKS.same("setProgram() as before", x.undoCount(), 5);
        x.turn(0, 0);
        CHECKS.same("turn() as before", x.undoCount(), 6);
        x.undo();
        x.undo();
        x.setOutside(50);
        CHECKS.same("setOutside() as before", x.undoCount(), 5);
        x.setControl(3, 5, 20);
        CHECKS.same("setControl() as before", x.undoCount(), 6);
        x.undo();
        x.newBattery(0, 1000);
        CHECKS.same("newBattery() as before", x.undoCount(), 6);
    }

    private static void lastSix() {
        ValveRoom x = Checks.house("room a temp 190;");
        for (int i = 1; i <= 9; i++) {
            x.setOutside(i);
            CHECKS.same("undoCount() behind " + i, x.undoCount(), Math.min(6, i + 1));
        }
        for (int i = 8; i >= 3; i--) {
            CHECKS.same("undo()", x.undo(), i - 3);
            CHECKS.same("outside", x.property(3), i);
        }
        CHECKS.inWrongState("undo() behind six", () -> x.undo());
        CHECKS.same("outside stays", x.property(3), 3);
        x.setOutside(77);
        CHECKS.same("one more", x.undoCount(), 1);
        CHECKS.same("undo() of it", x.undo(), 0);
        CHECKS.same("outside again", x.property(3), 3);
    }

    private static void whatStays() {
        ValveRoom x = house();
        x.tick(1);
        x.keep(1);
        int length = x.writeRooms();
        String written = Checks.output(x, length);
        Checks.load(x, "room ?");
        Checks.type(x, "ab");
        x.undo();
        CHECKS.same("the output stays", Checks.output(x, length), written);
        CHECKS.same("the error stays", x.errorCode(), 1);
        CHECKS.same("its position stays", x.errorPosition(), 5);
        CHECKS.same("the input stays", x.append(0, 0, 0, 0, 0), 22);
        CHECKS.same("the time does not", x.property(1), 4);
        CHECKS.same("the slot stays", x.restore(1), 5);
    }

    private static void loads() {
        ValveRoom x = new ValveRoom();
        x.setOutside(7);
        Checks.load(x, "room a temp 1;room b temp 1;");
        Checks.load(x, "room c temp 1;");
        CHECKS.same("three to undo", x.undoCount(), 3);
        CHECKS.same("undo() of the second", x.undo(), 2);
        CHECKS.same("two rooms", x.property(0), 2);
        CHECKS.same("undo() of the first", x.undo(), 1);
        CHECKS.same("no rooms", x.property(0), 0);
        CHECKS.same("outside 7", x.property(3), 7);
        Checks.type(x, "a");
        CHECKS.same("no room a", x.find(), -1);
        CHECKS.same("undo() of all", x.undo(), 0);
        CHECKS.same("outside 50", x.property(3), 50);
    }

    private static void keep() {
        ValveRoom x = house();
        int undoable = x.undoCount();
        CHECKS.same("keep(0)", x.keep(0), 4);
        x.tick(2);
        CHECKS.same("keep(1)", x.keep(1), 6);
        CHECKS.same("keep() cannot be undone", x.undoCount(), undoable + 1);
        CHECKS.outOfIndex("keep(2)", () -> x.keep(2));
        CHECKS.outOfIndex("keep(-1)", () -> x.keep(-1));
        CHECKS.same("restore(0)", x.restore(0), 4);
        CHECKS.same("restore(1)", x.restore(1), 6);
        x.tick(3);
        CHECKS.same("in place of what was there", x.keep(0), 9);
        x.tick(1);
        CHECKS.same("restore(0) again", x.restore(0), 9);
    }

    private static void restore() {
        ValveRoom x = house();
        CHECKS.inWrongState("restore(0)", () -> x.restore(0));
        CHECKS.outOfIndex("restore(2)", () -> x.restore(2));
        CHECKS.outOfIndex("restore(-1)", () -> x.restore(-1));
        String before = Checks.all(x);
        x.keep(1);
        CHECKS.inWrongState("restore(0) behind keep(1)", () -> x.restore(0));
        x.tick(40);
        Checks.load(x, "room c temp 5;");
        CHECKS.same("restore(1)", x.restore(1), 4);
        CHECKS.same("all of it", Checks.all(x), before);
        x.tick(5);
        CHECKS.same("restore(1) again", x.restore(1), 4);
        CHECKS.same("all of it again", Checks.all(x), before);
        Checks.type(x, "a");
        CHECKS.same("its names", x.find(), 0);
        ValveRoom y = new ValveRoom();
        y.keep(0);
        Checks.load(y, "room a temp 1;");
        CHECKS.same("restore() of no rooms", y.restore(0), 0);
        CHECKS.same("no rooms", y.property(0), 0);
    }

    private static void undoOfRestore() {
        ValveRoom x = house();
        x.keep(0);
        for (int i = 0; i < 5; i++) {
            x.tick(1);
        }
        int undoable = x.undoCount();
        x.restore(0);
        CHECKS.same("restore() does not restore what can be undone", x.undoCount(), Math.min(6, undoable + 1));
        x.undo();
        CHECKS.same("the time ahead of it", x.property(1), 9);
        x.undo();
        CHECKS.same("the time ahead of the last tick", x.property(1), 8);
    }

    private static void keptIsApart() {
        ValveRoom x = house();
        x.keep(0);
        String before = Checks.all(x);
        x.restore(0);
        x.setProgram(0, 5, 99);
        x.setProgram(1, 5, 99);
        x.turn(0, 1);
        x.plan(9, 1, 0);
        x.tick(20);
        x.restore(0);
        CHECKS.same("what is kept does not change", Checks.all(x), before);
    }
}
