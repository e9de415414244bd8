/** Promise 34 and section 3: what a tick does, in its order. */
public final class TickTest {
    private static final Checks CHECKS = new Checks();

    public static void main(String[] arguments) {
        answers();
        temperature();
        roundedDown();
        aheadOfTheTick();
        windowSeen();
        windowMode();
        overrideEnds();
        exercise();
        exerciseWithLittleBattery();
        exerciseByNumber();
        driving();
        drivingWithLittleBattery();
        notWhereWanted();
        emptyBattery();
        heat();
        plans();
        plansInTheirOrder();
        CHECKS.end();
    }

    private static void answers() {
        ValveRoom x = Checks.house("control 0 1 7;room a temp 150;room b temp 190 valve 50;room c temp 200 loss 0;");
        // a is driven from 0 to 7 and to 14, b from 50 towards its few tenths
        CHECKS.same("tick(1)", x.tick(1), 14);
        CHECKS.same("tick(2)", x.tick(2), 28);
        CHECKS.same("the time", x.property(1), 3);
        CHECKS.same("steps of a", x.count(0, 0), 21);
        CHECKS.same("steps of b", x.count(1, 0), 21);
        CHECKS.same("steps of c", x.count(2, 0), 0);
        ValveRoom six = Checks.house("exercise 1;" + Checks.sixRooms("battery 9999"));
        CHECKS.same("six rooms", six.tick(6), 6 * 200);
        CHECKS.outOfRange("tick(0)", () -> x.tick(0));
        CHECKS.outOfRange("tick(-1)", () -> x.tick(-1));
        CHECKS.outOfRange("tick(201)", () -> x.tick(201));
        CHECKS.same("the time behind it", x.property(1), 3);
        x.tick(200);
        CHECKS.same("the time behind tick(200)", x.property(1), 203);
    }

    private static int afterOne(String text) {
        ValveRoom x = Checks.house(text);
        x.tick(1);
        return x.room(0, 0);
    }

    private static void temperature() {
        CHECKS.same("the valve warms", afterOne("room a temp 100 power 30 loss 0 valve 50;"), 115);
        CHECKS.same("the loss cools", afterOne("outside 50;room a temp 250 loss 3;"), 244);
        CHECKS.same("both", afterOne("outside 50;room a temp 250 power 50 loss 3 valve 100;"), 294);
        CHECKS.same("warmer outside", afterOne("outside 300;room a temp 100 loss 3;"), 106);
        CHECKS.same("frost", afterOne("outside -100;room a temp 100 loss 3;"), 94);
        ValveRoom x = Checks.house("outside 50;room a temp 250 loss 3;");
        x.setWindow(0, true);
        x.tick(1);
        CHECKS.same("an open window", x.room(0, 0), 250 - 26);
    }

    private static void roundedDown() {
        CHECKS.same("99 / 100 of warmth", afterOne("room a temp 50 power 9 loss 0 valve 11;"), 50);
        CHECKS.same("100 / 100 of warmth", afterOne("room a temp 50 power 10 loss 0 valve 10;"), 51);
        CHECKS.same("99 / 100 of loss", afterOne("outside 50;room a temp 149 loss 1;"), 149);
        CHECKS.same("199 / 100 of loss", afterOne("outside 0;room a temp 199 loss 1;"), 198);
        CHECKS.same("-1 / 100 of loss", afterOne("outside 51;room a temp 50 loss 1;"), 51);
        CHECKS.same("-101 / 100 of loss", afterOne("outside 151;room a temp 50 loss 1;"), 52);
        // Each quotient is rounded for itself: 0.9 and 0.9.
        CHECKS.same("two halves", afterOne("outside 0;room a temp 90 power 9 loss 1 valve 10;"), 90);
        ValveRoom x = Checks.house("outside -300;room a temp 0 loss 50;");
        x.setWindow(0, true);
        x.tick(1);
        CHECKS.same("below 0", x.room(0, 0), -180);
        x.tick(1);
        CHECKS.same("further below 0", x.room(0, 0), -252);
        x.setOutside(0);
        x.tick(1);
        CHECKS.same("up again", x.room(0, 0), -252 + 152);
    }

    private static void aheadOfTheTick() {
        ValveRoom x = Checks.house("control 0 50 50;room a temp 100 power 50 loss 0;");
        x.tick(1);
        CHECKS.same("the valve of before counts", x.room(0, 0), 100);
        CHECKS.same("it is driven behind that", x.room(0, 1), 50);
        x.tick(1);
        CHECKS.same("now it warms", x.room(0, 0), 125);
    }

    private static void windowSeen() {
        // It falls by 8 each: 8 of 100 for 100 tenths of a degree.
        ValveRoom x = Checks.house("outside 0;window 9 hold 4;room a temp 100 loss 8;");
        x.tick(1);
        CHECKS.same("8 do not reach 9", x.room(0, 7), 0);
        CHECKS.same("none seen", x.count(0, 1), 0);
        ValveRoom y = Checks.house("outside 0;window 8 hold 4;room a temp 100 loss 8;");
        y.tick(1);
        CHECKS.same("8 reach 8", y.room(0, 7), 4);
        CHECKS.same("one seen", y.count(0, 1), 1);
        // It is seen by the fall, not by the window: the valve holds against it.
        ValveRoom z = Checks.house("outside 0;window 8 hold 4;room a temp 100 power 15 loss 5 valve 100;");
        z.setWindow(0, true);
        z.tick(1);
        CHECKS.same("as warm as before", z.room(0, 0), 100);
        CHECKS.same("an open window, not seen", z.count(0, 1), 0);
    }

    private static void windowMode() {
        ValveRoom x = Checks.house("outside 0;window 8 hold 2;control 0 50 100;room a temp 100 power 1 loss 8 valve 90;");
        x.tick(1);
        CHECKS.same("seen", x.room(0, 7), 2);
        CHECKS.same("driven shut at once", x.room(0, 1), 0);
        CHECKS.same("92", x.room(0, 0), 92);
        x.tick(1);
        CHECKS.same("85", x.room(0, 0), 85);
        CHECKS.same("one less", x.room(0, 7), 1);
        CHECKS.same("still shut", x.room(0, 1), 0);
        x.tick(1);
        CHECKS.same("79", x.room(0, 0), 79);
        CHECKS.same("over", x.room(0, 7), 0);
        CHECKS.same("open again in the same tick", x.room(0, 1), 100);
        ValveRoom y = Checks.house("outside 0;window 1 hold 3;room a temp 300 loss 4;");
        y.tick(3);
        CHECKS.same("seen each tick", y.count(0, 1), 3);
        CHECKS.same("told anew each time", y.room(0, 7), 3);
    }

    private static void overrideEnds() {
        ValveRoom x = Checks.house("control 0 50 100;room a temp 100 power 1 loss 0;program a 0:50;");
        x.override(0, 300, 2);
        x.tick(1);
        CHECKS.same("one tick left", x.room(0, 9), 1);
        CHECKS.same("still overridden", x.room(0, 8), 300);
        CHECKS.same("driven by it", x.room(0, 1), 100);
        x.tick(1);
        CHECKS.same("no tick left", x.room(0, 9), 0);
        CHECKS.same("no override", x.room(0, 8), -1);
        CHECKS.same("driven by the target behind it", x.room(0, 1), 0);
        x.tick(1);
        CHECKS.same("none stays none", x.room(0, 9), 0);
    }

    private static void exercise() {
        ValveRoom x = Checks.house("exercise 2;control 9 5 20;room a temp 200 power 1 loss 0 valve 30;");
        CHECKS.same("not at 1", x.tick(1), 0);
        CHECKS.same("70 up, 100 down, 30 up", x.tick(1), 200);
        CHECKS.same("where it was", x.room(0, 1), 30);
        CHECKS.same("one exercise", x.count(0, 2), 1);
        CHECKS.same("its steps", x.count(0, 0), 200);
        CHECKS.same("what it costs", x.room(0, 2), 800);
        x.tick(200);
        x.tick(135);
        CHECKS.same("not ahead of a week", x.count(0, 2), 1);
        x.tick(1);
        CHECKS.same("behind a week", x.count(0, 2), 2);
        // At 0 it is not at the time 0, but a week later.
        ValveRoom y = Checks.house("exercise 0;room a temp 200 loss 0 battery 9999;");
        y.tick(200);
        y.tick(135);
        CHECKS.same("not at 335", y.count(0, 2), 0);
        y.tick(1);
        CHECKS.same("at 336", y.count(0, 2), 1);
    }

    private static void exerciseWithLittleBattery() {
        ValveRoom x = Checks.house("exercise 1;control 50 5 20;room a temp 200 power 1 loss 0 valve 30 battery 120;");
        CHECKS.same("70 up, 50 down", x.tick(1), 120);
        CHECKS.same("stuck on the way", x.room(0, 1), 50);
        CHECKS.same("exercised", x.count(0, 2), 1);
        ValveRoom y = Checks.house("exercise 1;control 50 5 20;room a temp 200 power 1 loss 0 valve 30 battery 190;");
        y.tick(1);
        CHECKS.same("20 of the way back", y.room(0, 1), 20);
        ValveRoom z = Checks.house("exercise 1;room a temp 200 loss 0 valve 30 battery 0;");
        CHECKS.same("no step", z.tick(1), 0);
        CHECKS.same("exercised without a step", z.count(0, 2), 1);
    }

    private static void exerciseByNumber() {
        ValveRoom x = Checks.house("exercise 2;room a temp 200 loss 0;room b temp 200 loss 0;room c temp 200 loss 0;");
        x.tick(2);
        CHECKS.same("a at 2", x.count(0, 2), 1);
        CHECKS.same("b not at 2", x.count(1, 2), 0);
        x.tick(1);
        CHECKS.same("b at 3", x.count(1, 2), 1);
        CHECKS.same("c not at 3", x.count(2, 2), 0);
        x.tick(1);
        CHECKS.same("c at 4", x.count(2, 2), 1);
        CHECKS.same("a no more", x.count(0, 2), 1);
        // 1 - 2 modulo 336 is 335
        ValveRoom y = Checks.house("exercise 335;room a temp 200 loss 0;room b temp 200;room c temp 200 loss 0;");
        y.tick(1);
        CHECKS.same("c at 1", y.count(2, 2), 1);
        CHECKS.same("b not at 1", y.count(1, 2), 0);
    }

    private static void driving() {
        ValveRoom x = Checks.house("control 0 3 8;room a temp 190 loss 0;room b temp 210 power 1 loss 0 valve 13;");
        CHECKS.same("8 and 8", x.tick(1), 16);
        CHECKS.same("a at 8", x.room(0, 1), 8);
        CHECKS.same("b at 5", x.room(1, 1), 5);
        CHECKS.same("8 and 5", x.tick(1), 13);
        CHECKS.same("a at 16", x.room(0, 1), 16);
        CHECKS.same("b at 0", x.room(1, 1), 0);
        CHECKS.same("a costs 16", x.room(0, 2), 984);
        CHECKS.same("b costs 13", x.room(1, 2), 987);
    }

    private static void drivingWithLittleBattery() {
        ValveRoom x = Checks.house("control 0 3 8;room a temp 190 loss 0 battery 11;room b temp 210 loss 0 valve 13 battery 3;");
        CHECKS.same("8 and 3", x.tick(1), 11);
        CHECKS.same("b is stuck", x.room(1, 1), 10);
        CHECKS.same("3 and 0", x.tick(1), 3);
        CHECKS.same("a is stuck", x.room(0, 1), 11);
        CHECKS.same("a's battery", x.room(0, 2), 0);
        CHECKS.same("none", x.tick(1), 0);
    }

    private static void notWhereWanted() {
        ValveRoom x = Checks.house("control 0 3 8;room a temp 190 power 1 loss 0;");
        x.tick(3);
        CHECKS.same("wanted at 30, at 24", x.count(0, 4), 3);
        x.tick(1);
        CHECKS.same("where it is wanted", x.room(0, 1), 30);
        CHECKS.same("no more", x.count(0, 4), 3);
        ValveRoom y = Checks.house("control 9 3 8;room a temp 200 power 1 loss 0 valve 50 battery 0;");
        y.tick(4);
        CHECKS.same("within the band it is where it is wanted", y.count(0, 4), 0);
    }

    private static void emptyBattery() {
        ValveRoom x = Checks.house("control 0 3 8;room a temp 190 power 1 loss 0 battery 16;room b temp 1 battery 0;");
        x.tick(1);
        CHECKS.same("8 left", x.count(0, 5), 0);
        CHECKS.same("b's is 0", x.count(1, 5), 1);
        x.tick(1);
        CHECKS.same("0 left at the end", x.count(0, 5), 1);
        x.tick(5);
        CHECKS.same("0 left for 6 ticks", x.count(0, 5), 6);
        CHECKS.same("0 left for 7 ticks", x.count(1, 5), 7);
        x.newBattery(0, 500);
        x.tick(1);
        CHECKS.same("a new one", x.count(0, 5), 6);
    }

    private static void heat() {
        ValveRoom x = Checks.house("control 0 3 8;room a temp 190 power 1 loss 0;");
        x.tick(1);
        CHECKS.same("8", x.room(0, 10), 8);
        x.tick(2);
        CHECKS.same("8 + 16 + 24", x.room(0, 10), 48);
        x.turn(0, 0);
        CHECKS.same("turning is no heat", x.room(0, 10), 48);
    }

    private static void plans() {
        ValveRoom x = Checks.house("outside 50;room a temp 250 loss 0;room b temp 250 loss 0;"
                + "plan 2 a open;plan 4 a close;plan 2 b go;plan 3 b go;plan 5 b come;");
        x.tick(1);
        CHECKS.same("nothing yet", x.count(0, 3) + x.count(1, 3), 0);
        x.tick(1);
        CHECKS.same("open", x.room(0, 5), 1);
        CHECKS.same("colder in the same tick", x.room(0, 0), 230);
        CHECKS.same("nobody there", x.room(1, 6), 0);
        CHECKS.same("three to come", x.property(4), 3);
        x.tick(1);
        CHECKS.same("what is so already counts, too", x.count(1, 3), 2);
        x.tick(1);
        CHECKS.same("shut", x.room(0, 5), 0);
        CHECKS.same("two in a", x.count(0, 3), 2);
        x.tick(1);
        CHECKS.same("somebody there", x.room(1, 6), 1);
        CHECKS.same("three in b", x.count(1, 3), 3);
        CHECKS.same("none to come", x.property(4), 0);
        x.tick(9);
        CHECKS.same("each once", x.sum(3), 5);
    }

    private static void plansInTheirOrder() {
        ValveRoom x = Checks.house("room a temp 100;room b temp 100;"
                + "plan 2 a open;plan 2 a close;plan 2 b close;plan 2 b open;plan 2 a go;plan 2 a come;plan 2 a go;");
        x.tick(2);
        CHECKS.same("closed last", x.room(0, 5), 0);
        CHECKS.same("opened last", x.room(1, 5), 1);
        CHECKS.same("gone last", x.room(0, 6), 0);
        CHECKS.same("five in a", x.count(0, 3), 5);
    }
}
