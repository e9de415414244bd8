/** Promises 17 to 26, at the edges that their sentences name: a test for each sentence. */
public final class EdgeLookTest {
    private static final Checks CHECKS = new Checks();
    private static final int LEAST = Integer.MIN_VALUE;
    private static final int GREATEST = Integer.MAX_VALUE;
    /** Nothing warms or cools it, and its valve is stuck. */
    private static final String STILL = " power 1 loss 0 battery 0;";

    private interface Look {
        int of(ValveRoom x, int room, int ticks);
    }

    public static void main(String[] arguments) {
        ticksOfALook();
        roomsOfALook();
        behindSoManyTicks();
        alongTheOtherRooms();
        warmAtLeast();
        warmWithin500();
        emptyWithin500();
        exerciseWithinAWeek();
        exerciseByTheRoom();
        lackBehindEachTick();
        lackIsNeverBelowZero();
        heatGrowth();
        gainFrom1To50();
        gainOf48Ticks();
        leastGainOfSeveral();
        outsideOfTempIf();
        colderWithAnOpenWindow();
        plansThatCloseCount();
        neverColderThanZero();
        farAhead();
        CHECKS.end();
    }

    // ---- which room and how many ticks

    /** "ticks: 0 to 500" */
    private static void ticksOfALook() {
        ticked("tempIn", (x, room, ticks) -> x.tempIn(room, ticks));
        ticked("valveIn", (x, room, ticks) -> x.valveIn(room, ticks));
        ticked("lack", (x, room, ticks) -> x.lack(room, ticks));
        ticked("heatIn", (x, room, ticks) -> x.heatIn(ticks));
        ticked("tempIf", (x, room, ticks) -> x.tempIf(room, 0, ticks));
        ticked("coldBy", (x, room, ticks) -> x.coldBy(room, ticks));
        ValveRoom none = new ValveRoom();
        CHECKS.same("heatIn(500) without rooms", none.heatIn(500), 0);
        CHECKS.outOfRange("heatIn(501) without rooms", () -> none.heatIn(501));
        CHECKS.outOfRange("heatIn(-1) without rooms", () -> none.heatIn(-1));
    }

    private static void ticked(String name, Look look) {
        ValveRoom x = Checks.house("room a temp 150;");
        int[] right = {0, 1, 499, 500};
        for (int ticks : right) {
            CHECKS.that(name + " of " + ticks, look.of(x, 0, ticks) >= 0);
        }
        int[] wrong = {LEAST, -1, 501, 1000, GREATEST};
        for (int ticks : wrong) {
            CHECKS.outOfRange(name + " of " + ticks, () -> look.of(x, 0, ticks));
        }
        CHECKS.same("the time behind " + name, x.property(1), 0);
    }

    /** "Throws IndexOutOfBoundsException if there is no such room", ahead of all else */
    private static void roomsOfALook() {
        roomed("tempIn", (x, room, ticks) -> x.tempIn(room, ticks));
        roomed("valveIn", (x, room, ticks) -> x.valveIn(room, ticks));
        roomed("warmIn", (x, room, ticks) -> x.warmIn(room));
        roomed("emptyIn", (x, room, ticks) -> x.emptyIn(room));
        roomed("exerciseIn", (x, room, ticks) -> x.exerciseIn(room));
        roomed("lack", (x, room, ticks) -> x.lack(room, ticks));
        roomed("bestGain", (x, room, ticks) -> x.bestGain(room));
        roomed("tempIf", (x, room, ticks) -> x.tempIf(room, 401 - ticks, ticks));
        roomed("coldBy", (x, room, ticks) -> x.coldBy(room, ticks));
    }

    private static void roomed(String name, Look look) {
        for (int many = 0; many <= 6; many++) {
            StringBuilder text = new StringBuilder("back 1;");
            for (int i = 0; i < many; i++) {
                text.append("room ").append((char) ('a' + i)).append(" temp 150;");
            }
            ValveRoom x = Checks.house(text.toString());
            if (many > 0) {
                look.of(x, 0, 1);
                look.of(x, many - 1, 1);
            }
            int[] none = {LEAST, -1, many, 6, GREATEST};
            for (int room : none) {
                CHECKS.outOfIndex(name + " of room " + room + " of " + many, () -> look.of(x, room, 1));
                CHECKS.outOfIndex(name + " of room " + room + " and -1", () -> look.of(x, room, -1));
                CHECKS.outOfIndex(name + " of room " + room + " and 501", () -> look.of(x, room, 501));
            }
        }
    }

    /** "behind so many ticks": as tick() itself makes it, at 0, 500 and where a day or a week begins again */
    private static void behindSoManyTicks() {
        String text = "outside 20;window 6 hold 2;back 40;control 2 4 15;exercise 9;room a temp 190 power 12 loss 5 valve 30"
                + " battery 900;room b temp 150 loss 3;program a 5:150,20:220;plan 1 a open;plan 500 a close;plan 499 b go;"
                + "plan 47 a close;plan 48 b open;";
        int[] ticks = {0, 1, 2, 47, 48, 49, 335, 336, 337, 499, 500};
        for (int many : ticks) {
            ValveRoom now = Checks.house(text);
            ValveRoom then = Checks.house(text);
            Checks.pass(then, many);
            for (int room = 0; room < 2; room++) {
                CHECKS.same("tempIn of " + many, now.tempIn(room, many), then.room(room, 0));
                CHECKS.same("valveIn of " + many, now.valveIn(room, many), then.room(room, 1));
            }
            CHECKS.same("heatIn of " + many, now.heatIn(many), then.room(0, 10) + then.room(1, 10));
        }
    }

    /** The last of six rooms is looked at as the first, with the plans of all. */
    private static void alongTheOtherRooms() {
        StringBuilder text = new StringBuilder("outside 0;exercise 334;control 0 3 9;");
        for (int i = 0; i < 6; i++) {
            text.append("room ").append((char) ('a' + i)).append(" temp ").append(100 + 10 * i).append(" battery 300;");
        }
        for (int i = 0; i < 6; i++) {
            text.append("plan ").append(i + 1).append(' ').append((char) ('a' + i)).append(" open;");
        }
        ValveRoom now = Checks.house(text.toString());
        ValveRoom then = Checks.house(text.toString());
        then.tick(7);
        for (int room = 0; room < 6; room++) {
            CHECKS.same("tempIn of " + room, now.tempIn(room, 7), then.room(room, 0));
            CHECKS.same("valveIn of " + room, now.valveIn(room, 7), then.room(room, 1));
        }
        CHECKS.same("heatIn of all", now.heatIn(7), sumOfHeat(then));
        then.tick(3);
        CHECKS.same("heatIn counts what grows", then.heatIn(0), 0);
    }

    private static int sumOfHeat(ValveRoom x) {
        int sum = 0;
        for (int room = 0; room < x.property(0); room++) {
            sum += x.room(room, 10);
        }
        return sum;
    }

    // ---- warm, empty, exercise

    /** "it is at least as warm as its target then" */
    private static void warmAtLeast() {
        int[][] due = {{199, -1}, {200, 0}, {201, 0}};
        for (int[] one : due) {
            CHECKS.same("at " + one[0], Checks.house("room a temp " + one[0] + STILL).warmIn(0), one[1]);
        }
        // 1 warmer each tick: 198, 199, 200.
        CHECKS.same("in two ticks", Checks.house("room a temp 198 power 1 loss 0 valve 100 battery 0;").warmIn(0), 2);
        // "then": the target of that tick, not that of now.
        CHECKS.same("by a program", Checks.house("room a temp 100" + STILL + "program a 0:101,9:100,10:101;").warmIn(0), 9);
        CHECKS.same("by the last tick of the day", Checks.house("room a temp 100" + STILL
                + "program a 0:101,47:100;").warmIn(0), 47);
        CHECKS.same("by the last tick of the day before", Checks.house("room a temp 100" + STILL
                + "program a 1:101,47:100;").warmIn(0), 0);
        ValveRoom x = Checks.house("room a temp 100" + STILL + "program a 0:100;");
        x.override(0, 101, 3);
        CHECKS.same("as an override ends", x.warmIn(0), 3);
        x.override(0, 101, 500);
        CHECKS.same("as the longest override ends", x.warmIn(0), 500);
    }

    /** "in how many ticks, 0 to 500 ..; NONE if not within that" */
    private static void warmWithin500() {
        int[] times = {1, 499, 500, 501, 502};
        for (int time : times) {
            ValveRoom x = Checks.house("back 30;room a temp 170" + STILL + "plan " + time + " a go;");
            CHECKS.same("at " + time, x.warmIn(0), time <= 500 ? time : -1);
            x.tick(1);
            CHECKS.same("one later at " + time, x.warmIn(0), time <= 501 ? time - 1 : -1);
        }
    }

    /** "in how many ticks, 0 to 500, its battery is 0; NONE if not within that" */
    private static void emptyWithin500() {
        CHECKS.same("empty now", Checks.house("room a temp 200 battery 0;").emptyIn(0), 0);
        CHECKS.same("a last step", Checks.house("control 0 1 1;room a temp 190 loss 0 battery 1;").emptyIn(0), 1);
        CHECKS.same("no step", Checks.house("control 0 1 1;room a temp 200 loss 0 battery 1;").emptyIn(0), 100);
        // The exercise of 164 comes again at 500, and takes the last 200 steps.
        int[][] due = {{163, 400, 499}, {164, 400, 500}, {165, 400, -1}, {164, 399, 500}, {164, 401, -1}, {164, 200, 164},
            {164, 201, 500}};
        for (int[] one : due) {
            ValveRoom x = Checks.house("exercise " + one[0] + ";room a temp 200 loss 0 battery " + one[1] + ";");
            CHECKS.same("exercise " + one[0] + " battery " + one[1], x.emptyIn(0), one[2]);
        }
        ValveRoom x = Checks.house("control 0 1 1;room a temp 150 power 1 loss 0 battery 9;");
        x.tick(8);
        CHECKS.same("one is left", x.emptyIn(0), 1);
        x.tick(1);
        CHECKS.same("none is left", x.emptyIn(0), 0);
        x.newBattery(0, 1);
        CHECKS.same("a new one", x.emptyIn(0), 1);
    }

    /** "in how many ticks, 1 to 336, it is exercised next" */
    private static void exerciseWithinAWeek() {
        int[] ticks = {0, 1, 2, 167, 334, 335};
        for (int tick : ticks) {
            ValveRoom x = Checks.house("exercise " + tick + ";room a temp 200 loss 0;");
            CHECKS.same("at 0 of " + tick, x.exerciseIn(0), tick == 0 ? 336 : tick);
            Checks.pass(x, tick == 0 ? 335 : tick - 1);
            CHECKS.same("just ahead of " + tick, x.exerciseIn(0), 1);
            x.tick(1);
            CHECKS.same("just at " + tick, x.exerciseIn(0), 336);
            x.tick(1);
            CHECKS.same("just behind " + tick, x.exerciseIn(0), 335);
            Checks.pass(x, 334);
            CHECKS.same("just ahead of it in the next week", x.exerciseIn(0), 1);
            CHECKS.same("once so far", x.count(0, 2), 1);
            x.tick(1);
            CHECKS.same("twice so far", x.count(0, 2), 2);
            CHECKS.same("just at it in the next week", x.exerciseIn(0), 336);
        }
        ValveRoom y = Checks.house("exercise 0;room a temp 200 loss 0 battery 0;");
        CHECKS.same("with the battery at 0", y.exerciseIn(0), 336);
    }

    /** "the time less its number", for each number */
    private static void exerciseByTheRoom() {
        int[] ticks = {0, 1, 330, 331, 332, 335};
        for (int tick : ticks) {
            ValveRoom x = Checks.house("exercise " + tick + ";" + Checks.sixRooms("battery 9999"));
            for (int time = 0; time < 8; time++) {
                for (int room = 0; room < 6; room++) {
                    int due = tick + room - time;
                    due = due <= 0 ? due + 336 : due > 336 ? due - 336 : due;
                    CHECKS.same("exercise " + tick + ", room " + room + " at " + time, x.exerciseIn(room), due);
                }
                x.tick(1);
            }
        }
    }

    // ---- lack and heat

    /** "behind each of so many ticks" */
    private static void lackBehindEachTick() {
        ValveRoom x = Checks.house("room a temp 190" + STILL);
        int[] ticks = {0, 1, 2, 499, 500};
        for (int many : ticks) {
            CHECKS.same("10 each of " + many, x.lack(0, many), 10 * many);
        }
        // Not now, but behind the first tick; and behind the last one, too.
        ValveRoom y = Checks.house("room a temp 100" + STILL + "program a 0:150,1:101,2:103;");
        CHECKS.same("0 ticks", y.lack(0, 0), 0);
        CHECKS.same("1 tick", y.lack(0, 1), 1);
        CHECKS.same("2 ticks", y.lack(0, 2), 4);
        CHECKS.same("47 ticks", y.lack(0, 47), 1 + 46 * 3);
        CHECKS.same("48 ticks", y.lack(0, 48), 1 + 46 * 3 + 50);
    }

    /** "(0 if it is not)" */
    private static void lackIsNeverBelowZero() {
        CHECKS.same("at its target", Checks.house("room a temp 200" + STILL).lack(0, 500), 0);
        CHECKS.same("above it", Checks.house("room a temp 400" + STILL).lack(0, 500), 0);
        CHECKS.same("one below", Checks.house("room a temp 199" + STILL).lack(0, 500), 500);
        // 1 above and 1 below by turns do not make up for one another.
        ValveRoom x = Checks.house("room a temp 100" + STILL + "program a 0:99,1:101,2:99,3:101,4:99;");
        CHECKS.same("4 ticks", x.lack(0, 4), 2);
        CHECKS.same("48 ticks", x.lack(0, 48), 2);
    }

    /** "by how much the heat of all rooms grows in so many ticks" */
    private static void heatGrowth() {
        ValveRoom x = Checks.house("room a temp 200 power 1 loss 0 valve 1;room b temp 200 power 1 loss 0 valve 2;");
        CHECKS.same("0 ticks", x.heatIn(0), 0);
        CHECKS.same("1 tick", x.heatIn(1), 3);
        CHECKS.same("500 ticks", x.heatIn(500), 1500);
        x.tick(10);
        CHECKS.same("heat so far", x.room(0, 10) + x.room(1, 10), 30);
        CHECKS.same("0 ticks later", x.heatIn(0), 0);
        CHECKS.same("1 tick later", x.heatIn(1), 3);
        CHECKS.same("six rooms at 100", Checks.house(Checks.sixRooms("valve 99")).heatIn(1), 594);
    }

    // ---- gains

    private static int lackWith(String control, String behind, int gain, int ticks) {
        return Checks.house(control + gain + behind).lack(0, ticks);
    }

    private static int bestByTrying(String control, String behind, int ticks) {
        int best = 1;
        for (int gain = 2; gain <= 50; gain++) {
            if (lackWith(control, behind, gain, ticks) < lackWith(control, behind, best, ticks)) {
                best = gain;
            }
        }
        return best;
    }

    /** "the gain, 1 to 50" */
    private static void gainFrom1To50() {
        String wide = " 24;outside 144;window 99 hold 1;room a temp 202 power 8 loss 6;";
        int[] gains = {1, 49, 50};
        for (int gain : gains) {
            ValveRoom x = Checks.house("control 0 " + gain + wide);
            CHECKS.same("the greatest is best", x.bestGain(0), 50);
            CHECKS.same("the gain stays", x.property(9), gain);
            ValveRoom y = Checks.house("control 0 " + gain + " 100;room a temp 200" + STILL);
            CHECKS.same("the least of all alike", y.bestGain(0), 1);
            CHECKS.same("the gain stays", y.property(9), gain);
        }
        CHECKS.that("49 is not as good as 50", lackWith("control 0 ", wide, 49, 48) > lackWith("control 0 ", wide, 50, 48));
        // Here a gain of 51 would be better than all, if there were one.
        String steep = " 58;outside 67;window 99 hold 1;room a temp 177 power 14 loss 3;";
        CHECKS.same("none above 50", Checks.house("control 0 50" + steep).bestGain(0), 45);
        CHECKS.same("the best of them", bestByTrying("control 0 ", steep, 48), 45);
    }

    /** "with which lack() of 48 ticks would be least": not of 47, and not of 49 */
    private static void gainOf48Ticks() {
        String behind = " 36;outside 107;window 99 hold 1;room a temp 173 power 30 loss 2;program a 0:183,45:154;";
        CHECKS.same("best of 47", bestByTrying("control 1 ", behind, 47), 30);
        CHECKS.same("best of 48", bestByTrying("control 1 ", behind, 48), 34);
        CHECKS.same("best of 49", bestByTrying("control 1 ", behind, 49), 35);
        CHECKS.same("bestGain(0)", Checks.house("control 1 7" + behind).bestGain(0), 34);
    }

    /** "the least one of several" */
    private static void leastGainOfSeveral() {
        // It is 100 tenths below the target: from a gain on the valve goes to 100 at once, whatever the gain.
        String behind = " 100;outside 0;window 99 hold 1;room a temp 0 power 1 loss 0;";
        int best = Checks.house("control 0 50" + behind).bestGain(0);
        CHECKS.same("200 below is 100 by a gain of 1", best, 1);
        String near = " 100;outside 0;window 99 hold 1;room a temp 150 power 1 loss 0;program a 0:250;";
        CHECKS.same("100 below, and 1 less each tick", Checks.house("control 0 50" + near).bestGain(0), 2);
        CHECKS.that("2 is better than 1", lackWith("control 0 ", near, 2, 48) < lackWith("control 0 ", near, 1, 48));
        CHECKS.same("2 is as good as 50", lackWith("control 0 ", near, 2, 48), lackWith("control 0 ", near, 50, 48));
    }

    // ---- what would be

    /** "outside: -300 to 400" */
    private static void outsideOfTempIf() {
        ValveRoom x = Checks.house("outside 7;window 99 hold 1;room a temp 100 power 1 loss 10 battery 0;");
        int[][] right = {{-300, 60}, {-299, 61}, {-200, 70}, {-199, 71}, {0, 90}, {100, 100}, {101, 101}, {399, 130},
            {400, 130}};
        for (int[] one : right) {
            CHECKS.same("outside " + one[0], x.tempIf(0, one[0], 1), one[1]);
            CHECKS.same("0 ticks outside " + one[0], x.tempIf(0, one[0], 0), 100);
        }
        int[] wrong = {LEAST, -301, 401, GREATEST};
        for (int outside : wrong) {
            CHECKS.outOfRange("outside " + outside, () -> x.tempIf(0, outside, 1));
            CHECKS.outOfRange("0 ticks outside " + outside, () -> x.tempIf(0, outside, 0));
            CHECKS.outOfRange("501 ticks outside " + outside, () -> x.tempIf(0, outside, 501));
            CHECKS.outOfIndex("no room outside " + outside, () -> x.tempIf(1, outside, 501));
        }
        CHECKS.same("outside stays", x.property(3), 7);
        CHECKS.same("as it is outside", x.tempIf(0, 7, 9), x.tempIn(0, 9));
        // "if it was so outside": in each of the ticks
        CHECKS.same("two ticks", x.tempIf(0, 0, 2), 81);
    }

    /** "by how many tenths of a degree it would be colder .., if its window was open from now on" */
    private static void colderWithAnOpenWindow() {
        ValveRoom x = Checks.house("outside 0;window 99 hold 1;room a temp 200 power 1 loss 0 battery 0;");
        int[] due = {0, 20, 38, 54};
        for (int ticks = 0; ticks < due.length; ticks++) {
            CHECKS.same("coldBy(0, " + ticks + ")", x.coldBy(0, ticks), due[ticks]);
        }
        CHECKS.same("500 ticks", x.coldBy(0, 500), 200 - 9);
        CHECKS.same("the window stays", x.room(0, 5), 0);
        ValveRoom y = Checks.house("outside 0;window 99 hold 1;room a temp 9" + STILL);
        CHECKS.same("less than one tenth", y.coldBy(0, 500), 0);
        ValveRoom z = Checks.house("outside 0;window 99 hold 1;room a temp 10" + STILL);
        CHECKS.same("one tenth", z.coldBy(0, 500), 1);
    }

    /** "(plans that close it count)" */
    private static void plansThatCloseCount() {
        String room = "outside 0;window 99 hold 1;room a temp 200 power 1 loss 0 battery 0;";
        CHECKS.same("closed in the first tick", Checks.house(room + "plan 1 a close;").coldBy(0, 9), 0);
        CHECKS.same("closed in the second", Checks.house(room + "plan 2 a close;").coldBy(0, 9), 20);
        CHECKS.same("closed behind the last", Checks.house(room + "plan 3 a close;").coldBy(0, 2), 38);
        CHECKS.same("closed in another room", Checks.house(room + "room b temp 1;plan 1 b close;").coldBy(0, 1), 20);
        CHECKS.same("opened in any case", Checks.house(room + "plan 1 a open;").coldBy(0, 9), 0);
        CHECKS.same("opened in the second tick", Checks.house(room + "plan 2 a open;").coldBy(0, 1), 20);
        ValveRoom x = Checks.house(room);
        x.setWindow(0, true);
        CHECKS.same("open now", x.coldBy(0, 9), 0);
        ValveRoom y = Checks.house(room + "plan 1 a close;");
        y.setWindow(0, true);
        CHECKS.same("open now, and closed in the first tick", y.coldBy(0, 9), 0);
    }

    /** "0 if it would not be colder" */
    private static void neverColderThanZero() {
        ValveRoom x = Checks.house("outside 400;room a temp 200" + STILL);
        CHECKS.same("warmer outside", x.coldBy(0, 1), 0);
        CHECKS.same("warmer outside, 500 ticks", x.coldBy(0, 500), 0);
        ValveRoom y = Checks.house("outside 200;room a temp 200" + STILL);
        CHECKS.same("as warm outside", y.coldBy(0, 1), 0);
        ValveRoom z = Checks.house("outside 201;room a temp 200" + STILL);
        CHECKS.same("one tenth warmer outside", z.coldBy(0, 1), 0);
    }

    /** Late in a run nothing of all this grows too large. */
    private static void farAhead() {
        // With an empty battery the valve stays open: 50 warmer each tick.
        ValveRoom x = Checks.house("room a temp 400 power 50 loss 0 valve 100 battery 0;");
        for (int i = 0; i < 480; i++) {
            x.tick(200);
        }
        CHECKS.same("the time", x.property(1), 96000);
        CHECKS.same("its temperature", x.room(0, 0), 400 + 96000 * 50);
        CHECKS.same("its heat", x.room(0, 10), 9600000);
        CHECKS.same("ticks with the battery at 0", x.count(0, 5), 96000);
        CHECKS.same("not where it is wanted", x.count(0, 4), 96000);
        CHECKS.same("exercises", x.count(0, 2), (96000 - 100) / 336 + 1);
        CHECKS.same("wanted", x.wanted(0), 0);
        CHECKS.same("tempIn(0, 500)", x.tempIn(0, 500), 400 + 96500 * 50);
        CHECKS.same("lack(0, 500)", x.lack(0, 500), 0);
        CHECKS.same("warmth", x.warmth(0), 1.0f);
        CHECKS.same("a plan as late as may be", x.plan(96000 + 9999, 0, 0), 0);
        CHECKS.outOfRange("a plan later than that", () -> x.plan(96000 + 10000, 0, 0));
        CHECKS.same("exerciseIn(0)", x.exerciseIn(0), 336 - (96000 - 100) % 336);
        CHECKS.same("the tick of the day", x.property(2), 0);
        CHECKS.same("coldBy(0, 1)", x.coldBy(0, 1), 480035);
    }
}
