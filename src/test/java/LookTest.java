/** Promises 17 to 26: what will be, and what would be. */
public final class LookTest {
    private static final Checks CHECKS = new Checks();
    private static final String HOUSE = "outside 20;window 6 hold 2;back 40;control 2 4 15;exercise 9;"
            + "room a temp 190 power 12 loss 5 valve 30 battery 300;room b temp 150 loss 3;"
            + "room c temp 205 power 20 loss 6 battery 90;program a 5:150,20:220;program c 0:180,40:210;"
            + "plan 3 a open;plan 6 a close;plan 12 b go;plan 30 b come;plan 25 c open;";

    private interface Ask {
        int of(ValveRoom x, int ticks);
    }

    public static void main(String[] arguments) {
        asTicksWould();
        tempIn();
        valveIn();
        warmIn();
        emptyIn();
        exerciseIn();
        lack();
        heatIn();
        bestGain();
        tempIf();
        coldBy();
        changeNothing();
        CHECKS.end();
    }

    private static ValveRoom later(int ticks) {
        ValveRoom x = Checks.house(HOUSE);
        Checks.pass(x, ticks);
        return x;
    }

    private static void asTicksWould() {
        int[] ticks = {0, 1, 2, 3, 9, 10, 11, 47, 48, 200, 499, 500};
        ValveRoom now = Checks.house(HOUSE);
        now.override(0, 230, 7);
        for (int many : ticks) {
            ValveRoom then = Checks.house(HOUSE);
            then.override(0, 230, 7);
            Checks.pass(then, many);
            int heat = 0;
            for (int room = 0; room < 3; room++) {
                String asked = "(" + room + ", " + many + ")";
                CHECKS.same("tempIn" + asked, now.tempIn(room, many), then.room(room, 0));
                CHECKS.same("valveIn" + asked, now.valveIn(room, many), then.room(room, 1));
                heat += then.room(room, 10);
            }
            CHECKS.same("heatIn(" + many + ")", now.heatIn(many), heat);
        }
    }

    private static void refusesLooks(String name, Ask ask) {
        ValveRoom x = Checks.house("room a temp 190;room b temp 150;");
        CHECKS.outOfRange(name + " of -1 ticks", () -> ask.of(x, -1));
        CHECKS.outOfRange(name + " of 501 ticks", () -> ask.of(x, 501));
        CHECKS.outOfRange(name + " of most ticks", () -> ask.of(x, Integer.MAX_VALUE));
        ask.of(x, 0);
        ask.of(x, 500);
    }

    private static void tempIn() {
        ValveRoom x = Checks.house("outside 50;window 99 hold 1;control 0 1 10;room a temp 150 power 50 loss 10;");
        // The valve is wanted at 50 and more, and goes to 10, 20, 30: + 0 - 10, + 5 - 9, + 10 - 8.
        int[] due = {150, 140, 136, 138};
        for (int i = 0; i < due.length; i++) {
            CHECKS.same("tempIn(0, " + i + ")", x.tempIn(0, i), due[i]);
        }
        refusesLooks("tempIn", (y, ticks) -> y.tempIn(1, ticks));
        CHECKS.outOfIndex("tempIn(1, 501)", () -> x.tempIn(1, 501));
        CHECKS.outOfIndex("tempIn(-1, 0)", () -> x.tempIn(-1, 0));
    }

    private static void valveIn() {
        ValveRoom x = Checks.house("outside 50;window 99 hold 1;control 0 1 10;room a temp 150 loss 0;");
        int[] due = {0, 10, 20, 30};
        for (int i = 0; i < due.length; i++) {
            CHECKS.same("valveIn(0, " + i + ")", x.valveIn(0, i), due[i]);
        }
        refusesLooks("valveIn", (y, ticks) -> y.valveIn(1, ticks));
        CHECKS.outOfIndex("valveIn(1, 501)", () -> x.valveIn(1, 501));
        CHECKS.outOfIndex("valveIn(-1, 0)", () -> x.valveIn(-1, 0));
    }

    private static void warmIn() {
        CHECKS.same("as warm as the target", Checks.house("room a temp 200;").warmIn(0), 0);
        // It is driven to 100 at once, and makes 10 of warmth from the next tick on.
        CHECKS.same("by its valve", Checks.house("control 0 50 100;room a temp 190 loss 0;").warmIn(0), 2);
        CHECKS.same("by its program", Checks.house("room a temp 100 loss 0 battery 0;program a 0:150,7:100;")
                .warmIn(0), 7);
        CHECKS.same("as all go", Checks.house("back 50;room a temp 150 loss 0 battery 0;plan 4 a go;").warmIn(0), 4);
        CHECKS.same("just not", Checks.house("back 50;room a temp 149 loss 0 battery 0;plan 4 a go;").warmIn(0), -1);
        CHECKS.same("in 500", Checks.house("room a temp 170 loss 0 battery 0;plan 500 a go;").warmIn(0), 500);
        CHECKS.same("not in 501", Checks.house("room a temp 170 loss 0 battery 0;plan 501 a go;").warmIn(0), -1);
        ValveRoom x = Checks.house("room a temp 200 loss 0 battery 0;");
        x.override(0, 250, 5);
        CHECKS.same("as the override ends", x.warmIn(0), 5);
        CHECKS.outOfIndex("warmIn(1)", () -> x.warmIn(1));
        CHECKS.outOfIndex("warmIn(-1)", () -> x.warmIn(-1));
    }

    private static void emptyIn() {
        CHECKS.same("empty", Checks.house("room a temp 200 battery 0;").emptyIn(0), 0);
        CHECKS.same("10 a tick", Checks.house("control 0 50 10;room a temp 100 loss 0 battery 25;").emptyIn(0), 3);
        CHECKS.same("by exercise", Checks.house("control 50 5 20;exercise 6;room a temp 200 loss 0 battery 200;")
                .emptyIn(0), 6);
        CHECKS.same("by a second exercise", Checks.house("control 50 5 20;exercise 164;"
                + "room a temp 200 loss 0 battery 400;").emptyIn(0), 500);
        CHECKS.same("too late", Checks.house("control 50 5 20;exercise 165;"
                + "room a temp 200 loss 0 battery 400;").emptyIn(0), -1);
        ValveRoom x = Checks.house("room a temp 200 loss 0;");
        CHECKS.same("never", x.emptyIn(0), -1);
        CHECKS.outOfIndex("emptyIn(1)", () -> x.emptyIn(1));
        CHECKS.outOfIndex("emptyIn(-1)", () -> x.emptyIn(-1));
    }

    private static void exerciseIn() {
        ValveRoom x = Checks.house("exercise 100;room a temp 200;room b temp 200;room c temp 200;");
        CHECKS.same("a", x.exerciseIn(0), 100);
        CHECKS.same("c", x.exerciseIn(2), 102);
        x.tick(99);
        CHECKS.same("a in 1", x.exerciseIn(0), 1);
        x.tick(1);
        CHECKS.same("a in a week", x.exerciseIn(0), 336);
        CHECKS.same("b in 1", x.exerciseIn(1), 1);
        x.tick(200);
        x.tick(130);
        CHECKS.same("a in the next week", x.exerciseIn(0), 6);
        ValveRoom y = Checks.house("exercise 335;room a temp 200;room b temp 200;room c temp 200;");
        CHECKS.same("a at 335", y.exerciseIn(0), 335);
        CHECKS.same("b at 336", y.exerciseIn(1), 336);
        CHECKS.same("c at 1", y.exerciseIn(2), 1);
        CHECKS.same("at 0", Checks.house("exercise 0;room a temp 200;").exerciseIn(0), 336);
        CHECKS.outOfIndex("exerciseIn(3)", () -> y.exerciseIn(3));
        CHECKS.outOfIndex("exerciseIn(-1)", () -> y.exerciseIn(-1));
    }

    private static void lack() {
        ValveRoom x = Checks.house("control 0 5 50;room a temp 190 loss 0;");
        // The valve goes to 50, 25, 15 and 10; behind the ticks it is 190, 195, 197 and 198.
        int[] due = {0, 10, 15, 18, 20};
        for (int i = 0; i < due.length; i++) {
            CHECKS.same("lack(0, " + i + ")", x.lack(0, i), due[i]);
        }
        ValveRoom y = Checks.house("back 50;room a temp 190 loss 0 battery 0;program a 0:190,2:200,4:210;plan 5 a go;");
        CHECKS.same("by the targets of then", y.lack(0, 6), 0 + 10 + 10 + 20);
        refusesLooks("lack", (z, ticks) -> z.lack(1, ticks));
        CHECKS.outOfIndex("lack(1, 501)", () -> x.lack(1, 501));
        CHECKS.outOfIndex("lack(-1, 0)", () -> x.lack(-1, 0));
    }

    private static void heatIn() {
        ValveRoom x = Checks.house("control 0 5 10;room a temp 100 loss 0;room b temp 200 power 1 loss 0 valve 5;");
        // a: 10, 20, 30; b within the band of 0 stays at 5 and gains nothing of 5 / 100
        CHECKS.same("heatIn(0)", x.heatIn(0), 0);
        CHECKS.same("heatIn(1)", x.heatIn(1), 15);
        CHECKS.same("heatIn(3)", x.heatIn(3), 75);
        x.tick(2);
        CHECKS.same("heatIn(1) later", x.heatIn(1), 35);
        refusesLooks("heatIn", (y, ticks) -> y.heatIn(ticks));
        CHECKS.same("without rooms", new ValveRoom().heatIn(500), 0);
        CHECKS.same("six rooms", Checks.house(Checks.sixRooms("valve 3")).heatIn(2), 36);
    }

    private static void bestGain() {
        CHECKS.same("the least of several", Checks.house("control 0 1 100;room a temp 190 loss 0;program a 0:200;")
                .bestGain(0), bestByTrying("control 0 ", " 100;room a temp 190 loss 0;program a 0:200;"));
        CHECKS.same("all alike", Checks.house("control 0 33 100;room a temp 250 loss 0;").bestGain(0), 1);
        String wide = " 24;outside 144;window 99 hold 1;room a temp 202 power 8 loss 6;";
        CHECKS.same("the greatest", Checks.house("control 0 1" + wide).bestGain(0), 50);
        CHECKS.same("the greatest by trying", bestByTrying("control 0 ", wide), 50);
        CHECKS.same("without a battery", Checks.house("control 0 33 100;room a temp 100 battery 0;").bestGain(0), 1);
        String cold = " 100;outside 0;window 20 hold 5;room a temp 150 power 20 loss 7;room b temp 40 power 30 loss 9;";
        CHECKS.same("by trying", Checks.house("control 1 7" + cold).bestGain(0), bestByTrying("control 1 ", cold));
        ValveRoom x = Checks.house("control 1 7" + cold);
        x.bestGain(1);
        CHECKS.same("the gain stays", x.property(9), 7);
        CHECKS.outOfIndex("bestGain(2)", () -> x.bestGain(2));
        CHECKS.outOfIndex("bestGain(-1)", () -> x.bestGain(-1));
    }

    private static int bestByTrying(String ahead, String behind) {
        int best = 0;
        int least = Integer.MAX_VALUE;
        for (int gain = 1; gain <= 50; gain++) {
            int lack = Checks.house(ahead + gain + behind).lack(0, 48);
            if (lack < least) {
                least = lack;
                best = gain;
            }
        }
        return best;
    }

    private static void tempIf() {
        ValveRoom x = Checks.house("outside 50;window 99 hold 1;control 0 1 1;room a temp 200 loss 10 battery 0;");
        CHECKS.same("tempIf(0, 100, 0)", x.tempIf(0, 100, 0), 200);
        CHECKS.same("tempIf(0, 100, 1)", x.tempIf(0, 100, 1), 190);
        CHECKS.same("tempIf(0, 100, 2)", x.tempIf(0, 100, 2), 181);
        CHECKS.same("tempIf(0, 400, 1)", x.tempIf(0, 400, 1), 220);
        CHECKS.same("tempIf(0, -300, 1)", x.tempIf(0, -300, 1), 150);
        CHECKS.same("outside stays", x.property(3), 50);
        CHECKS.outOfRange("tempIf(0, 401, 1)", () -> x.tempIf(0, 401, 1));
        CHECKS.outOfRange("tempIf(0, -301, 1)", () -> x.tempIf(0, -301, 1));
        CHECKS.outOfIndex("tempIf(1, 401, 501)", () -> x.tempIf(1, 401, 501));
        CHECKS.outOfIndex("tempIf(-1, 0, 0)", () -> x.tempIf(-1, 0, 0));
        refusesLooks("tempIf", (y, ticks) -> y.tempIf(1, 50, ticks));
    }

    private static void coldBy() {
        ValveRoom x = Checks.house("outside 0;window 99 hold 1;room a temp 200 loss 10 battery 0;plan 2 a close;");
        CHECKS.same("coldBy(0, 0)", x.coldBy(0, 0), 0);
        CHECKS.same("coldBy(0, 1)", x.coldBy(0, 1), 20);
        // 180, 162 as it is; 160, 144 with the window open for one tick
        CHECKS.same("coldBy(0, 2)", x.coldBy(0, 2), 18);
        CHECKS.same("the window stays", x.room(0, 5), 0);
        x.setWindow(0, true);
        CHECKS.same("an open window", x.coldBy(0, 9), 0);
        ValveRoom y = Checks.house("outside 400;room a temp 200 loss 10 battery 0;");
        CHECKS.same("warmer outside", y.coldBy(0, 3), 0);
        CHECKS.outOfIndex("coldBy(1, 501)", () -> x.coldBy(1, 501));
        CHECKS.outOfIndex("coldBy(-1, 0)", () -> x.coldBy(-1, 0));
        refusesLooks("coldBy", (z, ticks) -> z.coldBy(1, ticks));
    }

    private static void changeNothing() {
        ValveRoom x = later(7);
        String before = Whole.state(x);
        for (int room = 0; room < 3; room++) {
            x.tempIn(room, 100);
            x.valveIn(room, 100);
            x.warmIn(room);
            x.emptyIn(room);
            x.exerciseIn(room);
            x.lack(room, 100);
            x.heatIn(100);
            x.bestGain(room);
            x.tempIf(room, -100, 100);
            x.coldBy(room, 100);
        }
        CHECKS.same("behind questions", Whole.state(x), before);
    }
}
