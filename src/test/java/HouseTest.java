/** Promises 27 to 33: the rooms side by side, sums, means and what is reckoned. */
public final class HouseTest {
    private static final Checks CHECKS = new Checks();

    public static void main(String[] arguments) {
        coldest();
        farthest();
        weakest();
        sum();
        meanTemp();
        warmth();
        reckoned();
        CHECKS.end();
    }

    private static void coldest() {
        CHECKS.same("without rooms", new ValveRoom().coldest(), -1);
        CHECKS.same("one", Checks.house("room a temp 400;").coldest(), 0);
        CHECKS.same("the last", Checks.house("room a temp 9;room b temp 9;room c temp 8;").coldest(), 2);
        CHECKS.same("the lowest of several", Checks.house("room a temp 9;room b temp 7;room c temp 7;").coldest(), 1);
        ValveRoom x = Checks.house("outside -300;room a temp 0;room b temp 0 loss 50;");
        x.tick(1);
        CHECKS.same("below 0", x.coldest(), 1);
    }

    private static void farthest() {
        CHECKS.same("without rooms", new ValveRoom().farthest(), -1);
        CHECKS.same("one, at its target", Checks.house("room a temp 200;").farthest(), 0);
        CHECKS.same("above it", Checks.house("room a temp 190;room b temp 195;room c temp 211;").farthest(), 2);
        CHECKS.same("the lowest of several", Checks.house("room a temp 199;room b temp 190;room c temp 210;")
                .farthest(), 1);
        ValveRoom x = Checks.house("back 50;room a temp 190;room b temp 150;program b 0:160;");
        CHECKS.same("by the programs", x.farthest(), 0);
        x.setPresent(1, false);
        CHECKS.same("by who is there", x.farthest(), 1);
        x.override(0, 300, 1);
        CHECKS.same("by an override", x.farthest(), 0);
    }

    private static void weakest() {
        CHECKS.same("without rooms", new ValveRoom().weakest(), -1);
        CHECKS.same("the lowest of several", Checks.house("room a temp 1;room b temp 1;").weakest(), 0);
        ValveRoom x = Checks.house("room a temp 1 battery 5;room b temp 1 battery 4;room c temp 1 battery 0;");
        CHECKS.same("the last", x.weakest(), 2);
        x.newBattery(2, 4);
        CHECKS.same("the lowest of two", x.weakest(), 1);
    }

    private static void sum() {
        ValveRoom none = new ValveRoom();
        ValveRoom x = Checks.house("outside 0;window 5 hold 2;control 0 5 10;exercise 2;room a temp 100 loss 6 battery 40;"
                + "room b temp 100;room c temp 300 loss 9 valve 50 battery 7;plan 1 a go;plan 2 c open;plan 3 c open;");
        x.tick(5);
        for (int i = 0; i < 6; i++) {
            CHECKS.same("sum(" + i + ")", x.sum(i), x.count(0, i) + x.count(1, i) + x.count(2, i));
            CHECKS.that("sum(" + i + ") of something", x.sum(i) > 0);
            CHECKS.same("sum(" + i + ") without rooms", none.sum(i), 0);
        }
        CHECKS.same("plans carried out", x.sum(3), 3);
        CHECKS.same("exercises", x.sum(2), 3);
        ValveRoom six = Checks.house(Checks.sixRooms("battery 0"));
        six.tick(4);
        CHECKS.same("six rooms", six.sum(5), 24);
        Checks.load(six, "room a temp 200 battery 0;");
        six.tick(1);
        CHECKS.same("one room behind six", six.sum(5), 1);
        CHECKS.outOfRange("sum(-1)", () -> x.sum(-1));
        CHECKS.outOfRange("sum(6)", () -> x.sum(6));
        CHECKS.outOfRange("sum(6) without rooms", () -> none.sum(6));
    }

    private static void meanTemp() {
        CHECKS.same("without rooms", new ValveRoom().meanTemp(), 0.0);
        CHECKS.same("of one", Checks.house("room a temp 187;").meanTemp(), 187.0);
        CHECKS.same("of two", Checks.house("room a temp 187;room b temp 188;").meanTemp(), 187.5);
        CHECKS.same("of three", Checks.house("room a temp 1;room b temp 0;room c temp 0;").meanTemp(), 1.0 / 3.0);
        CHECKS.same("of six", Checks.house("room a temp 10;room b temp 10;room c temp 10;room d temp 10;room e temp 10;"
                + "room f temp 11;").meanTemp(), 61.0 / 6.0);
        ValveRoom x = Checks.house("outside -300;room a temp 0 loss 50;room b temp 0 loss 0;");
        x.tick(1);
        CHECKS.same("below 0", x.meanTemp(), -75.0);
        Checks.load(x, "room c temp 90;");
        CHECKS.same("of one behind two", x.meanTemp(), 90.0);
        CHECKS.same("the coldest of one", x.coldest(), 0);
    }

    private static void warmth() {
        ValveRoom x = Checks.house("control 50 5 20;room a temp 200 power 1 loss 0 valve 33;room b temp 400 loss 0;");
        CHECKS.same("at the time 0", x.warmth(0), 0.0f);
        x.tick(1);
        CHECKS.same("33 of 100", x.warmth(0), 33.0f / 100.0f);
        CHECKS.same("never open", x.warmth(1), 0.0f);
        x.turn(0, 34);
        x.tick(2);
        CHECKS.same("101 of 300", x.warmth(0), 101.0f / 300.0f);
        CHECKS.outOfIndex("warmth(2)", () -> x.warmth(2));
        CHECKS.outOfIndex("warmth(-1)", () -> x.warmth(-1));
        ValveRoom y = Checks.house("room a temp 200;");
        CHECKS.outOfIndex("warmth(1) at the time 0", () -> y.warmth(1));
    }

    private static void reckoned() {
        ValveRoom x = Checks.house("control 0 50 20;room a temp 100 battery 70;room b temp 100 battery 9;");
        CHECKS.same("as told", x.reckoned(0), 70);
        x.tick(1);
        CHECKS.same("less the steps", x.reckoned(0), 50);
        CHECKS.same("used up", x.reckoned(1), 0);
        x.newBattery(0, 300);
        CHECKS.same("put in", x.reckoned(0), 300);
        x.tick(2);
        CHECKS.same("less the steps since then", x.reckoned(0), 260);
        x.turn(0, 0);
        CHECKS.same("turning costs nothing", x.reckoned(0), 260);
        CHECKS.outOfIndex("reckoned(2)", () -> x.reckoned(2));
        CHECKS.outOfIndex("reckoned(-1)", () -> x.reckoned(-1));
    }
}
