/** Promises 8 to 16 and section 2: what the house, its rooms, programs and plans are. */
public final class AskTest {
    private static final Checks CHECKS = new Checks();
    private static final int[] FAR = {Integer.MIN_VALUE, -1, 6, Integer.MAX_VALUE};

    public static void main(String[] arguments) {
        property();
        room();
        count();
        target();
        programmed();
        entry();
        wanted();
        why();
        planned();
        CHECKS.end();
    }

    private static void property() {
        ValveRoom x = Checks.house("outside -17;window 11 hold 4;back 45;control 2 6 35;exercise 301;"
                + "room a temp 190;room b temp 191;room c temp 192;plan 3 a go;plan 60 b open;");
        int[] due = {3, 0, 0, -17, 2, 11, 4, 45, 2, 6, 35, 301};
        for (int i = 0; i < due.length; i++) {
            CHECKS.same("property(" + i + ")", x.property(i), due[i]);
        }
        x.tick(50);
        CHECKS.same("the time", x.property(1), 50);
        CHECKS.same("the tick of the day", x.property(2), 2);
        CHECKS.same("plans to come", x.property(4), 1);
        x.tick(46);
        CHECKS.same("the tick of the day at 96", x.property(2), 0);
        CHECKS.outOfRange("property(-1)", () -> x.property(-1));
        CHECKS.outOfRange("property(12)", () -> x.property(12));
        CHECKS.outOfRange("property(greatest)", () -> x.property(Integer.MAX_VALUE));
    }

    private static void room() {
        ValveRoom x = Checks.house("room a temp 190 power 11 loss 3 valve 42 battery 77;room b temp 80;");
        int[] due = {190, 42, 77, 11, 3, 0, 1, 0, -1, 0, 0};
        for (int i = 0; i < due.length; i++) {
            CHECKS.same("room(0, " + i + ")", x.room(0, i), due[i]);
        }
        CHECKS.same("room(1, 0)", x.room(1, 0), 80);
        x.setWindow(0, true);
        x.setPresent(0, false);
        x.override(0, 250, 9);
        CHECKS.same("open", x.room(0, 5), 1);
        CHECKS.same("nobody there", x.room(0, 6), 0);
        CHECKS.same("override", x.room(0, 8), 250);
        CHECKS.same("its ticks", x.room(0, 9), 9);
        CHECKS.same("the other is shut", x.room(1, 5), 0);
        CHECKS.same("somebody is in the other", x.room(1, 6), 1);
        CHECKS.same("the other's override", x.room(1, 8), -1);
        for (int far : FAR) {
            CHECKS.outOfIndex("room(" + far + ", 0)", () -> x.room(far, 0));
        }
        CHECKS.outOfIndex("room(2, 0)", () -> x.room(2, 0));
        CHECKS.outOfIndex("room(2, 11)", () -> x.room(2, 11));
        CHECKS.outOfRange("room(1, 11)", () -> x.room(1, 11));
        CHECKS.outOfRange("room(1, -1)", () -> x.room(1, -1));
    }

    private static void count() {
        ValveRoom x = Checks.house("room a temp 190;room b temp 80;");
        for (int i = 0; i < 6; i++) {
            CHECKS.same("count(1, " + i + ")", x.count(1, i), 0);
        }
        CHECKS.outOfIndex("count(-1, 0)", () -> x.count(-1, 0));
        CHECKS.outOfIndex("count(2, 6)", () -> x.count(2, 6));
        CHECKS.outOfRange("count(1, 6)", () -> x.count(1, 6));
        CHECKS.outOfRange("count(1, -1)", () -> x.count(1, -1));
    }

    private static void target() {
        ValveRoom x = Checks.house("back 25;room a temp 190;room b temp 190;program b 10:150,20:160,47:170;");
        CHECKS.same("without a program", x.target(0), 200);
        CHECKS.same("the last of the program", x.target(1), 170);
        x.tick(9);
        CHECKS.same("at 9", x.target(1), 170);
        x.tick(1);
        CHECKS.same("at 10", x.target(1), 150);
        x.tick(10);
        CHECKS.same("at 20", x.target(1), 160);
        x.tick(26);
        CHECKS.same("at 46", x.target(1), 160);
        x.tick(1);
        CHECKS.same("at 47", x.target(1), 170);
        x.tick(11);
        CHECKS.same("at 10 of the next day", x.target(1), 150);
        x.setPresent(1, false);
        CHECKS.same("nobody there", x.target(1), 125);
        x.setPresent(0, false);
        CHECKS.same("nobody there, without a program", x.target(0), 175);
        x.override(1, 240, 1);
        CHECKS.same("the setback is not for the override", x.target(1), 240);
        CHECKS.outOfIndex("target(2)", () -> x.target(2));
        CHECKS.outOfIndex("target(-1)", () -> x.target(-1));
    }

    private static void programmed() {
        ValveRoom x = Checks.house("room a temp 190;room b temp 190;program b 20:160,10:150;program a 0:90;");
        x.setPresent(1, false);
        x.override(1, 240, 9);
        int[] ticks = {0, 9, 10, 11, 19, 20, 21, 47};
        int[] due = {160, 160, 150, 150, 150, 160, 160, 160};
        for (int i = 0; i < ticks.length; i++) {
            CHECKS.same("programmed(1, " + ticks[i] + ")", x.programmed(1, ticks[i]), due[i]);
            CHECKS.same("programmed(0, " + ticks[i] + ")", x.programmed(0, ticks[i]), 90);
        }
        x.clearProgram(0, 0);
        CHECKS.same("without a program", x.programmed(0, 0), 200);
        CHECKS.outOfIndex("programmed(2, 48)", () -> x.programmed(2, 48));
        CHECKS.outOfIndex("programmed(-1, 0)", () -> x.programmed(-1, 0));
        CHECKS.outOfRange("programmed(0, 48)", () -> x.programmed(0, 48));
        CHECKS.outOfRange("programmed(0, -1)", () -> x.programmed(0, -1));
    }

    private static void entry() {
        ValveRoom x = Checks.house("room a temp 190;room b temp 190;program b 20:160,0:50,47:300;");
        CHECKS.same("entry(1, 0)", x.entry(1, 0), 50);
        CHECKS.same("entry(1, 1)", x.entry(1, 1), 20160);
        CHECKS.same("entry(1, 2)", x.entry(1, 2), 47300);
        CHECKS.notThere("entry(1, 3)", () -> x.entry(1, 3));
        CHECKS.notThere("entry(1, -1)", () -> x.entry(1, -1));
        CHECKS.notThere("entry(1, 1000)", () -> x.entry(1, 1000));
        CHECKS.notThere("entry(0, 0)", () -> x.entry(0, 0));
        CHECKS.outOfIndex("entry(2, 0)", () -> x.entry(2, 0));
        CHECKS.outOfIndex("entry(-1, -1)", () -> x.entry(-1, -1));
        for (int tick = 0; tick < 48; tick++) {
            x.setProgram(0, 47 - tick, 100 + tick);
        }
        for (int tick = 0; tick < 48; tick++) {
            CHECKS.same("entry(0, " + tick + ")", x.entry(0, tick), 1000 * tick + 147 - tick);
        }
        CHECKS.notThere("entry(0, 48)", () -> x.entry(0, 48));
    }

    /** A room whose target is 200, with a band of 4 and a gain of 7. */
    private static ValveRoom at(int temperature, int valve) {
        return Checks.house("control 4 7 20;room a temp " + temperature + " valve " + valve + ";");
    }

    private static void wanted() {
        CHECKS.same("5 below", at(195, 9).wanted(0), 35);
        CHECKS.same("4 below is within the band", at(196, 9).wanted(0), 9);
        CHECKS.same("4 above is within the band", at(204, 9).wanted(0), 9);
        CHECKS.same("5 above", at(205, 9).wanted(0), 0);
        CHECKS.same("14 below", at(186, 9).wanted(0), 98);
        CHECKS.same("15 below", at(185, 9).wanted(0), 100);
        CHECKS.same("200 above", at(400, 9).wanted(0), 0);
        ValveRoom x = at(100, 70);
        x.override(0, 101, 1);
        CHECKS.same("with the target of now", x.wanted(0), 70);
        // With the window open, 14 * (100 - 50) / 100 = 7 are lost.
        ValveRoom y = Checks.house("window 7 hold 2;room a temp 100 valve 0;");
        y.setWindow(0, true);
        y.tick(1);
        CHECKS.same("window mode", y.room(0, 7), 2);
        CHECKS.same("in window mode", y.wanted(0), 0);
        CHECKS.outOfIndex("wanted(1)", () -> x.wanted(1));
        CHECKS.outOfIndex("wanted(-1)", () -> x.wanted(-1));
    }

    private static void why() {
        CHECKS.same("it can be driven", at(195, 9).why(0), 0);
        CHECKS.same("it can be driven shut", at(250, 9).why(0), 0);
        CHECKS.same("by the band", at(196, 9).why(0), 3);
        CHECKS.same("by the band, above", at(204, 9).why(0), 3);
        CHECKS.same("the target is not above", at(205, 0).why(0), 4);
        CHECKS.same("the target is above", at(195, 35).why(0), 5);
        CHECKS.same("the target is far above", at(0, 100).why(0), 5);
        CHECKS.same("the target is 1 above", Checks.house("control 0 7 20;room a temp 199 valve 7;").why(0), 5);
        ValveRoom x = Checks.house("window 7 hold 2;room a temp 100 battery 0;");
        CHECKS.same("the battery is 0", x.why(0), 1);
        x.setWindow(0, true);
        x.tick(1);
        CHECKS.same("window mode", x.why(0), 2);
        x.setWindow(0, false);
        x.tick(1);
        CHECKS.same("one tick of window mode left", x.room(0, 7), 1);
        CHECKS.same("window mode for one tick more", x.why(0), 2);
        x.turn(0, 5);
        CHECKS.same("window mode with the battery at 0", x.why(0), 1);
        x.newBattery(0, 1);
        CHECKS.same("window mode with a battery", x.why(0), 0);
        x.turn(0, 0);
        x.override(0, x.room(0, 0), 1);
        CHECKS.same("window mode goes ahead of the band", x.why(0), 2);
        ValveRoom y = Checks.house("control 0 7 20;room a temp 200 valve 3 battery 0;");
        CHECKS.same("just warm enough, without a band", y.why(0), 3);
        CHECKS.outOfIndex("why(1)", () -> x.why(1));
        CHECKS.outOfIndex("why(-1)", () -> x.why(-1));
    }

    private static void planned() {
        ValveRoom x = Checks.house("room a temp 1;room b temp 1;"
                + "plan 9 b go;plan 4 a come;plan 9 a open;plan 4 b close;plan 1 b open;");
        int[][] due = {{1, 1, ValveRoom.OPEN}, {4, 0, ValveRoom.COME}, {4, 1, ValveRoom.CLOSE},
            {9, 1, ValveRoom.GO}, {9, 0, ValveRoom.OPEN}};
        for (int i = 0; i < due.length; i++) {
            for (int what = 0; what < 3; what++) {
                CHECKS.same("planned(" + i + ", " + what + ")", x.planned(i, what), due[i][what]);
            }
        }
        x.tick(4);
        CHECKS.same("the next plan", x.planned(0, 0), 9);
        CHECKS.same("its room", x.planned(0, 1), 1);
        CHECKS.same("the plan behind it", x.planned(1, 1), 0);
        CHECKS.outOfIndex("planned(2, 0)", () -> x.planned(2, 0));
        CHECKS.outOfIndex("planned(2, 3)", () -> x.planned(2, 3));
        CHECKS.outOfIndex("planned(-1, 0)", () -> x.planned(-1, 0));
        CHECKS.outOfRange("planned(1, 3)", () -> x.planned(1, 3));
        CHECKS.outOfRange("planned(1, -1)", () -> x.planned(1, -1));
    }
}
