/** Promise 34 and sections 2 and 3, at the edges that their sentences name: a test for each sentence. */
public final class EdgeTickTest {
    private static final Checks CHECKS = new Checks();

    public static void main(String[] arguments) {
        oneToTwoHundredTicks();
        timeGrowsByOne();
        plansOfThisTime();
        allPlansOfOneTime();
        inTheOrderInWhichTheyWereTold();
        whatIsSoAlreadyCounts();
        plansAheadOfTheRooms();
        valveTimesPower();
        lossTimesDifference();
        tenWithAnOpenWindow();
        aheadOfThisTick();
        atLeastTheFall();
        asManyAsToldByHold();
        ifAnyAreLeft();
        oneTickLessOfTheOverride();
        targetBehindTheOverride();
        tickForExercise();
        numberTakenFromTheTime();
        drivenThereAndBack();
        exerciseUntilTheBatteryIsZero();
        exerciseInWindowMode();
        positionWanted();
        asTheValveIs();
        asManyStepsAsTold();
        drivenUntilTheBatteryIsZero();
        heatBehindTheDriving();
        notWhereItWasWanted();
        batteryZeroAtTheEnd();
        stepsOfAllValves();
        CHECKS.end();
    }

    private static ValveRoom after(String text, int ticks) {
        ValveRoom x = Checks.house(text);
        Checks.pass(x, ticks);
        return x;
    }

    // ---- the time and the plans

    /** "ticks: 1 to 200" */
    private static void oneToTwoHundredTicks() {
        int[] right = {1, 2, 199, 200};
        for (int ticks : right) {
            ValveRoom x = Checks.house("exercise 335;room a temp 200 power 1 loss 0;");
            CHECKS.same("tick(" + ticks + ")", x.tick(ticks), 0);
            CHECKS.same("the time behind tick(" + ticks + ")", x.property(1), ticks);
        }
        int[] wrong = {Integer.MIN_VALUE, -1, 0, 201, Integer.MAX_VALUE};
        for (int ticks : wrong) {
            ValveRoom x = Checks.house("room a temp 100;");
            CHECKS.outOfRange("tick(" + ticks + ")", () -> x.tick(ticks));
            CHECKS.same("the time behind tick(" + ticks + ")", x.property(1), 0);
            CHECKS.same("the valve behind tick(" + ticks + ")", x.room(0, 1), 0);
            CHECKS.same("undoCount() behind tick(" + ticks + ")", x.undoCount(), 1);
            ValveRoom none = new ValveRoom();
            CHECKS.outOfRange("tick(" + ticks + ") without rooms", () -> none.tick(ticks));
        }
        ValveRoom none = new ValveRoom();
        CHECKS.same("tick(200) without rooms", none.tick(200), 0);
        CHECKS.same("the time behind it", none.property(1), 200);
    }

    /** "The time grows by 1." */
    private static void timeGrowsByOne() {
        ValveRoom x = new ValveRoom();
        for (int time = 1; time <= 100; time++) {
            x.tick(1);
            CHECKS.same("the time", x.property(1), time);
            CHECKS.same("the tick of the day", x.property(2), time < 48 ? time : time < 96 ? time - 48 : time - 96);
        }
    }

    /** "Then all plans of this time are carried out": not at the time before, nor later. */
    private static void plansOfThisTime() {
        int[] times = {1, 2, 200, 201, 9998, 9999};
        for (int time : times) {
            ValveRoom x = Checks.house("room a temp 200 power 1 loss 0;plan " + time + " a open;");
            Checks.pass(x, time - 1);
            CHECKS.same("not yet at " + (time - 1), x.room(0, 5), 0);
            CHECKS.same("still to come", x.property(4), 1);
            CHECKS.same("not carried out", x.count(0, 3), 0);
            x.tick(1);
            CHECKS.same("at " + time, x.room(0, 5), 1);
            CHECKS.same("none to come", x.property(4), 0);
            CHECKS.same("carried out", x.count(0, 3), 1);
            x.setWindow(0, false);
            x.tick(1);
            CHECKS.same("no more at " + (time + 1), x.room(0, 5), 0);
            CHECKS.same("carried out once", x.count(0, 3), 1);
        }
        ValveRoom y = Checks.house("room a temp 200;");
        y.tick(7);
        y.plan(8 + 9998, 0, ValveRoom.GO);
        Checks.pass(y, 9998);
        CHECKS.same("not yet at 10005", y.room(0, 6), 1);
        y.tick(1);
        CHECKS.same("at 10006", y.room(0, 6), 0);
    }

    /** "all plans of this time": twenty of one tick, and those of several ticks within one call */
    private static void allPlansOfOneTime() {
        ValveRoom x = Checks.house("room a temp 200;room b temp 200;" + "plan 3 a open;".repeat(10)
                + "plan 3 b go;".repeat(10));
        x.tick(2);
        CHECKS.same("all to come", x.property(4), 20);
        x.tick(1);
        CHECKS.same("none to come", x.property(4), 0);
        CHECKS.same("ten in a", x.count(0, 3), 10);
        CHECKS.same("ten in b", x.count(1, 3), 10);
        ValveRoom y = Checks.house("room a temp 200;" + "plan 1 a open;plan 200 a close;plan 201 a open;");
        y.tick(200);
        CHECKS.same("two of three", y.count(0, 3), 2);
        CHECKS.same("the second was the last", y.room(0, 5), 0);
        CHECKS.same("one to come", y.property(4), 1);
    }

    /** "in the order in which they were told" */
    private static void inTheOrderInWhichTheyWereTold() {
        String[] kinds = {"open", "close", "come", "go"};
        for (int first = 0; first < 4; first++) {
            for (int second = 0; second < 4; second++) {
                ValveRoom x = after("room a temp 200;plan 1 a " + kinds[first] + ";plan 1 a " + kinds[second] + ";", 1);
                int open = second < 2 ? 1 - second : first < 2 ? 1 - first : 0;
                int present = second >= 2 ? 3 - second : first >= 2 ? 3 - first : 1;
                CHECKS.same(kinds[first] + ", " + kinds[second] + ": open", x.room(0, 5), open);
                CHECKS.same(kinds[first] + ", " + kinds[second] + ": present", x.room(0, 6), present);
            }
        }
        ValveRoom y = Checks.house("room a temp 200;plan 2 a close;");
        y.plan(1, 0, ValveRoom.CLOSE);
        y.plan(2, 0, ValveRoom.OPEN);
        y.tick(2);
        CHECKS.same("told by plan() behind the text", y.room(0, 5), 1);
    }

    /** "(those that set what is so already count, too)" */
    private static void whatIsSoAlreadyCounts() {
        ValveRoom x = after("room a temp 200;plan 1 a close;plan 1 a come;plan 2 a open;plan 3 a open;plan 3 a open;"
                + "plan 4 a go;plan 5 a go;", 5);
        CHECKS.same("all seven", x.count(0, 3), 7);
        CHECKS.same("open", x.room(0, 5), 1);
        CHECKS.same("nobody there", x.room(0, 6), 0);
    }

    /** "Then for each room": the plans of this time count for all that follows. */
    private static void plansAheadOfTheRooms() {
        ValveRoom x = after("outside 0;room a temp 100 power 1 loss 0;plan 1 a open;", 1);
        CHECKS.same("open in this tick", x.room(0, 0), 90);
        ValveRoom y = Checks.house("outside 0;room a temp 100 power 1 loss 0;plan 1 a close;");
        y.setWindow(0, true);
        y.tick(1);
        CHECKS.same("shut in this tick", y.room(0, 0), 100);
        ValveRoom z = after("back 100;control 0 1 100;room a temp 110 power 1 loss 0;plan 1 a go;plan 2 a come;", 1);
        CHECKS.same("gone in this tick", z.room(0, 1), 0);
        z.tick(1);
        CHECKS.same("come in this tick", z.room(0, 1), 90);
    }

    // ---- a

    private static int warmer(int valve, int power) {
        return after("room a temp 100 power " + power + " loss 0 valve " + valve + ";", 1).room(0, 0) - 100;
    }

    /** "plus its valve times its power, divided by 100", "rounded down" */
    private static void valveTimesPower() {
        int[][] due = {{0, 50, 0}, {1, 1, 0}, {99, 1, 0}, {100, 1, 1}, {49, 2, 0}, {50, 2, 1}, {99, 2, 1}, {100, 2, 2},
            {1, 50, 0}, {2, 50, 1}, {3, 50, 1}, {4, 50, 2}, {33, 3, 0}, {34, 3, 1}, {100, 50, 50}, {99, 50, 49}};
        for (int[] one : due) {
            CHECKS.same("valve " + one[0] + " power " + one[1], warmer(one[0], one[1]), one[2]);
        }
    }

    private static int colder(int temperature, int outside, int loss) {
        String sign = outside < 0 ? "- " : "";
        return temperature - after("outside " + sign + Math.abs(outside) + ";room a temp " + temperature + " loss "
                + loss + ";", 1).room(0, 0);
    }

    /** "minus its loss .. times the difference of its temperature and that outside (negative, if it is colder inside)" */
    private static void lossTimesDifference() {
        int[][] due = {{200, 200, 50, 0}, {201, 200, 1, 0}, {299, 200, 1, 0}, {300, 200, 1, 1}, {399, 200, 1, 1},
            {400, 200, 1, 2}, {249, 200, 2, 0}, {250, 200, 2, 1}, {201, 200, 50, 0}, {202, 200, 50, 1},
            {199, 200, 1, -1}, {100, 200, 1, -1}, {99, 200, 1, -2}, {0, 200, 1, -2}, {0, 201, 1, -3}, {198, 200, 50, -1},
            {197, 200, 50, -2}, {0, 0, 50, 0}, {0, -1, 50, 0}, {0, -2, 50, 1}, {0, 1, 50, -1}, {0, -300, 50, 150},
            {0, 400, 50, -200}, {400, -300, 50, 350}, {400, 400, 50, 0}, {300, 200, 0, 0}, {0, 400, 0, 0}};
        for (int[] one : due) {
            CHECKS.same("temp " + one[0] + " outside " + one[1] + " loss " + one[2], colder(one[0], one[1], one[2]), one[3]);
        }
        // "Both quotients are rounded down": each for itself, 0.99 and 0.99, or 0.01 and -0.01.
        ValveRoom x = after("outside 1;room a temp 100 power 1 loss 1 valve 99;", 1);
        CHECKS.same("0.99 up and 0.99 down", x.room(0, 0), 100);
        ValveRoom y = after("outside 101;room a temp 100 power 1 loss 1 valve 1;", 1);
        CHECKS.same("0.01 up and 0.01 up", y.room(0, 0), 101);
        ValveRoom z = after("outside 0;room a temp 101 power 1 loss 1 valve 99;", 1);
        CHECKS.same("0.99 up and 1.01 down", z.room(0, 0), 100);
    }

    /** "(plus 10 with an open window)" */
    private static void tenWithAnOpenWindow() {
        int[][] due = {{0, 109, 0, 10}, {0, 110, 0, 11}, {1, 100, 0, 11}, {50, 100, 0, 60}, {0, 0, 9, -1}, {0, 0, 11, -2},
            {0, 0, 10, -1}, {0, 0, 0, 0}};
        for (int[] one : due) {
            ValveRoom x = Checks.house("outside " + one[2] + ";room a temp " + one[1] + " power 1 loss " + one[0] + ";");
            x.setWindow(0, true);
            x.tick(1);
            CHECKS.same("loss " + one[0] + " temp " + one[1] + " outside " + one[2], one[1] - x.room(0, 0), one[3]);
        }
    }

    /** "both go by the temperature and valve ahead of this tick" */
    private static void aheadOfThisTick() {
        ValveRoom x = Checks.house("outside 0;window 99 hold 1;control 0 50 100;exercise 1;room a temp 100 power 50 loss 10;");
        x.tick(1);
        CHECKS.same("shut ahead, though it is exercised and opened", x.room(0, 0), 90);
        CHECKS.same("open behind it", x.room(0, 1), 100);
        x.tick(1);
        CHECKS.same("50 up, and 10 of 100 of 90 down", x.room(0, 0), 131);
        x.turn(0, 0);
        x.tick(1);
        CHECKS.same("turned shut, and 13 down", x.room(0, 0), 118);
    }

    // ---- b

    /** It falls by just so much in a tick: by that loss from 100 to 0 outside. */
    private static ValveRoom falling(int by, int fall, int hold) {
        return after("outside 0;window " + fall + " hold " + hold + ";room a temp 100 power 1 loss " + by + ";", 1);
    }

    /** "If it fell by at least the fall by that, the window is SEEN" */
    private static void atLeastTheFall() {
        int[] falls = {1, 2, 8, 49, 50};
        for (int fall : falls) {
            CHECKS.same("one less than " + fall, falling(fall - 1, fall, 3).count(0, 1), 0);
            CHECKS.same("window mode at one less than " + fall, falling(fall - 1, fall, 3).room(0, 7), 0);
            CHECKS.same("just " + fall, falling(fall, fall, 3).count(0, 1), 1);
            CHECKS.same("window mode at just " + fall, falling(fall, fall, 3).room(0, 7), 3);
            if (fall < 50) {
                CHECKS.same("one more than " + fall, falling(fall + 1, fall, 3).count(0, 1), 1);
            }
        }
        String steep = "outside - 100;room a temp 65 power 1 loss 50;";
        ValveRoom x = Checks.house("window 98 hold 1;" + steep);
        x.setWindow(0, true);
        x.tick(1);
        CHECKS.same("99 of 98", x.count(0, 1), 1);
        x = Checks.house("window 99 hold 1;" + steep);
        x.setWindow(0, true);
        x.tick(1);
        CHECKS.same("99 of 99", x.count(0, 1), 1);
        x = Checks.house("window 99 hold 1;" + steep.replace("65", "64"));
        x.setWindow(0, true);
        x.tick(1);
        CHECKS.same("98 of 99", x.count(0, 1), 0);
        // "by that": what the valve and the loss make together, and not what was made by hand.
        CHECKS.same("a rise", after("outside 400;window 1 hold 1;room a temp 1 loss 1;", 1).count(0, 1), 0);
        CHECKS.same("neither", after("window 1 hold 1;room a temp 1 loss 0;", 1).count(0, 1), 0);
        ValveRoom y = Checks.house("outside 0;window 8 hold 1;room a temp 100 power 2 loss 9 valve 100;");
        y.tick(1);
        CHECKS.same("9 down and 2 up", y.count(0, 1), 0);
        ValveRoom z = Checks.house("outside 0;window 8 hold 1;room a temp 100 power 2 loss 10 valve 100;");
        z.tick(1);
        CHECKS.same("10 down and 2 up", z.count(0, 1), 1);
    }

    /** "as many ticks of window mode are left as told by hold" */
    private static void asManyAsToldByHold() {
        int[] holds = {1, 2, 47, 48};
        for (int hold : holds) {
            ValveRoom x = falling(9, 9, hold);
            CHECKS.same("left of " + hold, x.room(0, 7), hold);
            x.setOutside(100);
            for (int left = hold - 1; left >= 0; left--) {
                CHECKS.same("window mode with " + (left + 1), x.wanted(0), 0);
                x.tick(1);
                CHECKS.same("one less of " + hold, x.room(0, 7), left);
            }
            CHECKS.that("no window mode behind " + hold, x.wanted(0) > 0);
        }
        ValveRoom y = falling(9, 8, 5);
        y.tick(1);
        CHECKS.same("seen again: not added up", y.room(0, 7), 5);
        CHECKS.same("seen twice", y.count(0, 1), 2);
        y.tick(1);
        CHECKS.same("not seen a third time, by 7", y.count(0, 1), 2);
        CHECKS.same("one less", y.room(0, 7), 4);
    }

    /** "Otherwise, if any are left, one less is left." */
    private static void ifAnyAreLeft() {
        ValveRoom x = after("room a temp 100 loss 0;", 1);
        CHECKS.same("none is left of none", x.room(0, 7), 0);
        ValveRoom y = falling(9, 9, 1);
        y.setOutside(91);
        y.tick(1);
        CHECKS.same("none is left of one", y.room(0, 7), 0);
        y.tick(1);
        CHECKS.same("none is left still", y.room(0, 7), 0);
        // Within the tick in which the last is gone, it is no longer in window mode.
        ValveRoom z = Checks.house("outside 0;window 9 hold 1;control 0 50 100;room a temp 100 power 1 loss 9;");
        z.tick(1);
        CHECKS.same("shut in the tick in which it is seen", z.room(0, 1), 0);
        z.setOutside(91);
        z.tick(1);
        CHECKS.same("opened in the tick in which none is left", z.room(0, 1), 100);
    }

    // ---- c

    /** "If it has an override, this has one tick less left; with 0 it has none any more." */
    private static void oneTickLessOfTheOverride() {
        int[] ticks = {1, 2, 500};
        for (int many : ticks) {
            ValveRoom x = Checks.house("room a temp 200 power 1 loss 0;");
            x.override(0, 300, many);
            Checks.pass(x, many - 1);
            CHECKS.same("one tick left of " + many, x.room(0, 9), 1);
            CHECKS.same("its target", x.target(0), 300);
            x.tick(1);
            CHECKS.same("none left of " + many, x.room(0, 9), 0);
            CHECKS.same("no override", x.room(0, 8), -1);
            CHECKS.same("the target without it", x.target(0), 200);
            x.tick(1);
            CHECKS.same("none left still", x.room(0, 9), 0);
        }
    }

    /** "the target (behind c)" */
    private static void targetBehindTheOverride() {
        String text = "control 0 1 100;room a temp 190 power 1 loss 0;";
        ValveRoom x = Checks.house(text);
        x.override(0, 250, 1);
        CHECKS.same("ahead of the tick", x.wanted(0), 60);
        x.tick(1);
        CHECKS.same("one tick of it is none", x.room(0, 1), 10);
        ValveRoom y = Checks.house(text);
        y.override(0, 250, 2);
        y.tick(1);
        CHECKS.same("two ticks of it are one", y.room(0, 1), 60);
        y.tick(1);
        CHECKS.same("and no second", y.room(0, 1), 10);
        // The program goes by the time that has grown.
        ValveRoom z = Checks.house(text + "program a 0:200,1:230,47:240;");
        z.tick(1);
        CHECKS.same("at 1, not at 0", z.room(0, 1), 40);
    }

    // ---- d

    /** "If the time less its number, modulo 336, is the tick for exercise" */
    private static void tickForExercise() {
        int[] ticks = {0, 1, 100, 334, 335};
        for (int tick : ticks) {
            ValveRoom x = Checks.house("exercise " + tick + ";room a temp 200 power 1 loss 0 battery 9999;");
            int first = tick == 0 ? 336 : tick;
            Checks.pass(x, first - 1);
            CHECKS.same("not at " + (first - 1), x.count(0, 2), 0);
            x.tick(1);
            CHECKS.same("at " + first, x.count(0, 2), 1);
            x.tick(1);
            CHECKS.same("not at " + (first + 1), x.count(0, 2), 1);
            Checks.pass(x, 334);
            CHECKS.same("not at " + (first + 335), x.count(0, 2), 1);
            x.tick(1);
            CHECKS.same("at " + (first + 336), x.count(0, 2), 2);
            Checks.pass(x, 336);
            CHECKS.same("at " + (first + 672), x.count(0, 2), 3);
        }
    }

    /** The same for the rooms 0 to 5: "modulo 336", also where the time is less than the number */
    private static void numberTakenFromTheTime() {
        for (int exercise = 329; exercise <= 342; exercise++) {
            ValveRoom x = Checks.house("exercise " + exercise % 336 + ";" + Checks.sixRooms("battery 9999"));
            for (int time = 1; time <= 12; time++) {
                x.tick(1);
                for (int room = 0; room < 6; room++) {
                    // The number beside it counts from 336 on, as the time less the number may be below 0.
                    int due = 0;
                    for (int at = 1; at <= time; at++) {
                        due += (at - room + 336) % 336 == exercise % 336 ? 1 : 0;
                    }
                    CHECKS.same("exercise " + exercise % 336 + ", room " + room + " at " + time, x.count(room, 2), due);
                }
            }
        }
        ValveRoom y = Checks.house("exercise 331;" + Checks.sixRooms("battery 9999"));
        CHECKS.same("the last room at 0 has passed", y.exerciseIn(5), 336);
        CHECKS.same("the last but one", y.exerciseIn(4), 335);
        ValveRoom z = Checks.house("exercise 332;" + Checks.sixRooms("battery 9999"));
        CHECKS.same("the last room at 1", z.exerciseIn(5), 1);
        CHECKS.same("the steps of its exercise", z.tick(1), 200);
        CHECKS.same("it was exercised", z.count(5, 2), 1);
        CHECKS.same("again in a week", z.exerciseIn(5), 336);
    }

    /** "the valve is driven to 100, to 0, and to where it was, each by at most 100 steps" */
    private static void drivenThereAndBack() {
        int[] valves = {0, 1, 50, 99, 100};
        for (int valve : valves) {
            // The band keeps the valve where it is, and so slow a speed is not for exercise.
            ValveRoom x = Checks.house("control 50 1 1;exercise 1;room a temp 200 power 1 loss 0 valve " + valve + ";");
            CHECKS.same("steps from " + valve, x.tick(1), 200);
            CHECKS.same("where it was", x.room(0, 1), valve);
            CHECKS.same("what it costs", x.room(0, 2), 800);
            CHECKS.same("its steps", x.count(0, 0), 200);
            CHECKS.same("its heat", x.room(0, 10), valve);
        }
    }

    /** "it stops when .. the battery is 0", in each part of an exercise */
    private static void exerciseUntilTheBatteryIsZero() {
        // From 30: 70 steps up, 100 down, 30 up.
        int[][] due = {{0, 30}, {1, 31}, {69, 99}, {70, 100}, {71, 99}, {169, 1}, {170, 0}, {171, 1}, {199, 29},
            {200, 30}, {201, 30}};
        for (int[] one : due) {
            ValveRoom x = Checks.house("control 50 1 100;exercise 1;room a temp 200 power 1 loss 0 valve 30 battery "
                    + one[0] + ";");
            CHECKS.same("steps with " + one[0], x.tick(1), Math.min(one[0], 200));
            CHECKS.same("valve with " + one[0], x.room(0, 1), one[1]);
            CHECKS.same("battery with " + one[0], x.room(0, 2), Math.max(0, one[0] - 200));
            CHECKS.same("exercised with " + one[0], x.count(0, 2), 1);
            CHECKS.same("it is as it is, by the band", x.count(0, 4), 0);
            CHECKS.same("battery 0 at the end of it", x.count(0, 5), one[0] <= 200 ? 1 : 0);
        }
        // What is left behind the exercise drives it further.
        ValveRoom y = Checks.house("control 0 1 100;exercise 1;room a temp 190 power 1 loss 0 battery 205;");
        CHECKS.same("200 steps and 5", y.tick(1), 205);
        CHECKS.same("5 of 10", y.room(0, 1), 5);
        CHECKS.same("not where it is wanted", y.count(0, 4), 1);
    }

    /** An exercise comes, in window mode too. */
    private static void exerciseInWindowMode() {
        ValveRoom x = after("outside 0;window 9 hold 1;control 0 1 10;exercise 1;"
                + "room a temp 100 power 1 loss 9 valve 40;", 1);
        CHECKS.same("in window mode", x.room(0, 7), 1);
        CHECKS.same("exercised", x.count(0, 2), 1);
        CHECKS.same("200 steps and 10 on the way to 0", x.count(0, 0), 210);
        CHECKS.same("back where it was, and 10 less", x.room(0, 1), 30);
    }

    // ---- e

    /** "the gain times what the target is above the temperature, 0 at least and 100 at most" */
    private static void positionWanted() {
        int[][] due = {{1, 199, 1}, {1, 101, 99}, {1, 100, 100}, {1, 99, 100}, {50, 199, 50}, {50, 198, 100},
            {50, 197, 100}, {50, 0, 100}, {50, 201, 0}, {1, 201, 0}, {1, 400, 0}, {7, 186, 98}, {7, 185, 100}};
        for (int[] one : due) {
            ValveRoom x = after("control 0 " + one[0] + " 100;room a temp " + one[1] + " power 1 loss 0 valve 55;", 1);
            CHECKS.same("gain " + one[0] + " at " + one[1], x.room(0, 1), one[2]);
            CHECKS.same("it is where it is wanted", x.count(0, 4), 0);
        }
    }

    /** "the valve as it is, if the target (behind c) and the temperature differ by at most the band" */
    private static void asTheValveIs() {
        int[] bands = {0, 1, 49, 50};
        for (int band : bands) {
            String ahead = "control " + band + " 1 100;room a temp ";
            String behind = " power 1 loss 0 valve 77;";
            CHECKS.same("below by the band", after(ahead + (200 - band) + behind, 1).room(0, 1), 77);
            CHECKS.same("above by the band", after(ahead + (200 + band) + behind, 1).room(0, 1), 77);
            CHECKS.same("below by one more", after(ahead + (199 - band) + behind, 1).room(0, 1), band + 1);
            CHECKS.same("above by one more", after(ahead + (201 + band) + behind, 1).room(0, 1), 0);
        }
        // By the temperature behind a: it comes into the band in this tick, and leaves it in this tick.
        ValveRoom x = after("control 3 1 100;room a temp 196 power 1 loss 0 valve 100;", 1);
        CHECKS.same("197 is within 3", x.room(0, 1), 100);
        ValveRoom y = after("control 3 1 100;room a temp 203 power 1 loss 0 valve 100;", 1);
        CHECKS.same("204 is not within 3", y.room(0, 1), 0);
    }

    /** "by at most as many steps as told by speed" */
    private static void asManyStepsAsTold() {
        int[] speeds = {1, 2, 9, 10, 11, 99, 100};
        for (int speed : speeds) {
            String control = "control 0 1 " + speed + ";room a temp ";
            ValveRoom x = Checks.house(control + "190 power 1 loss 0;");
            CHECKS.same("up by " + speed, x.tick(1), Math.min(speed, 10));
            CHECKS.same("the valve", x.room(0, 1), Math.min(speed, 10));
            CHECKS.same("there or not", x.count(0, 4), speed < 10 ? 1 : 0);
            CHECKS.same("the battery", x.room(0, 2), 1000 - Math.min(speed, 10));
            ValveRoom y = Checks.house(control + "300 power 1 loss 0 valve 10;");
            CHECKS.same("down by " + speed, y.tick(1), Math.min(speed, 10));
            CHECKS.same("the valve", y.room(0, 1), 10 - Math.min(speed, 10));
            ValveRoom z = Checks.house(control + "0 power 1 loss 0;");
            CHECKS.same("to 100 by " + speed, z.tick(1), speed);
            ValveRoom there = Checks.house(control + "190 power 1 loss 0 valve 10;");
            CHECKS.same("there already", there.tick(1), 0);
        }
    }

    /** "each step costs 1 of the battery; it stops when .. the battery is 0" */
    private static void drivenUntilTheBatteryIsZero() {
        int[] batteries = {0, 1, 9, 10, 11};
        for (int battery : batteries) {
            int steps = Math.min(battery, 10);
            ValveRoom x = Checks.house("control 0 1 100;room a temp 190 power 1 loss 0 battery " + battery + ";");
            CHECKS.same("up with " + battery, x.tick(1), steps);
            CHECKS.same("the valve", x.room(0, 1), steps);
            CHECKS.same("the battery", x.room(0, 2), battery - steps);
            CHECKS.same("its steps", x.count(0, 0), steps);
            CHECKS.same("there or not", x.count(0, 4), battery < 10 ? 1 : 0);
            CHECKS.same("battery 0", x.count(0, 5), battery <= 10 ? 1 : 0);
            ValveRoom y = Checks.house("control 0 1 100;room a temp 300 power 1 loss 0 valve 10 battery " + battery + ";");
            CHECKS.same("down with " + battery, y.tick(1), steps);
            CHECKS.same("the valve", y.room(0, 1), 10 - steps);
        }
        ValveRoom slow = Checks.house("control 0 1 3;room a temp 190 power 1 loss 0 battery 3;");
        CHECKS.same("as many as the speed and the battery", slow.tick(1), 3);
        CHECKS.same("none is left", slow.tick(1), 0);
        slow.newBattery(0, 1);
        CHECKS.same("one is left", slow.tick(200), 1);
    }

    // ---- f and the counts

    /** "Its HEAT grows by its valve, as it is then." */
    private static void heatBehindTheDriving() {
        int[] valves = {0, 1, 99, 100};
        for (int valve : valves) {
            ValveRoom x = Checks.house("control 50 1 100;room a temp 200 power 1 loss 0 valve " + valve + ";");
            CHECKS.same("no heat at first", x.room(0, 10), 0);
            x.tick(1);
            CHECKS.same("heat of " + valve, x.room(0, 10), valve);
            x.tick(1);
            CHECKS.same("heat of two ticks", x.room(0, 10), 2 * valve);
        }
        ValveRoom y = after("control 0 1 4;room a temp 190 power 1 loss 0;", 3);
        CHECKS.same("4 and 8 and 10", y.room(0, 10), 22);
        ValveRoom z = after("control 0 1 100;room a temp 300 power 1 loss 0 valve 100;", 1);
        CHECKS.same("shut in this tick", z.room(0, 10), 0);
    }

    /** "4 ticks at whose end its valve was not where it was wanted" */
    private static void notWhereItWasWanted() {
        ValveRoom x = Checks.house("control 0 1 4;room a temp 190 power 1 loss 0;");
        x.tick(2);
        CHECKS.same("at 4 and 8 of 10", x.count(0, 4), 2);
        x.tick(1);
        CHECKS.same("at 10 of 10", x.count(0, 4), 2);
        x.turn(0, 15);
        x.tick(1);
        CHECKS.same("at 11 of 10", x.count(0, 4), 3);
        x.tick(1);
        CHECKS.same("at 10 again", x.count(0, 4), 3);
        x.turn(0, 100);
        x.heatIn(9);
        CHECKS.same("not in a question", x.count(0, 4), 3);
    }

    /** "5 ticks in which its battery was 0 at the end" */
    private static void batteryZeroAtTheEnd() {
        ValveRoom x = Checks.house("control 0 1 5;room a temp 190 power 1 loss 0 battery 6;");
        x.tick(1);
        CHECKS.same("1 is left", x.count(0, 5), 0);
        x.tick(1);
        CHECKS.same("0 is left", x.count(0, 5), 1);
        x.tick(198);
        CHECKS.same("0 is left for 199 ticks", x.count(0, 5), 199);
        x.newBattery(0, 1);
        CHECKS.same("not between ticks", x.count(0, 5), 199);
        x.turn(0, 10);
        x.tick(1);
        CHECKS.same("1 is left", x.count(0, 5), 199);
        x.turn(0, 9);
        x.tick(1);
        CHECKS.same("used up in this tick", x.count(0, 5), 200);
    }

    /** "how many steps all valves were driven in them" */
    private static void stepsOfAllValves() {
        for (int many = 1; many <= 6; many++) {
            StringBuilder text = new StringBuilder("control 0 50 3;");
            for (int i = 0; i < many; i++) {
                text.append("room ").append((char) ('a' + i)).append(" temp 100 power 1 loss 0;");
            }
            ValveRoom x = Checks.house(text.toString());
            CHECKS.same("of one tick", x.tick(1), 3 * many);
            CHECKS.same("of two ticks", x.tick(2), 6 * many);
            CHECKS.same("of all", x.sum(0), 9 * many);
            x.turn(0, 100);
            CHECKS.same("turning is no step", x.tick(1), 3 * (many - 1));
        }
    }
}
