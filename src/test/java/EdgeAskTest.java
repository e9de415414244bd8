/** Promises 8 to 16 and 27 to 33 and section 2, at the edges that their sentences name: a test for each sentence. */
public final class EdgeAskTest {
    private static final Checks CHECKS = new Checks();
    private static final int LEAST = Integer.MIN_VALUE;
    private static final int GREATEST = Integer.MAX_VALUE;
    private static final String A = "room a temp 200 power 1 loss 0;";

    private interface Ask {
        void of(ValveRoom x, int room);
    }

    private interface AskWhat {
        void of(ValveRoom x, int what);
    }

    public static void main(String[] arguments) {
        roomsThatExist();
        whatInRange();
        dayOf48Ticks();
        plansToCome();
        atFirst();
        overrideAndItsTicks();
        latestTickNotLater();
        lastTickOfTheProgram();
        withoutAProgram();
        lessByTheSetback();
        ticksOfTheDay();
        entriesOfAProgram();
        wantedByTheBand();
        wantedByTheGain();
        wantedInWindowMode();
        whyItCanBeDriven();
        whyItIsThere();
        plansByTimes();
        coldestOfSeveral();
        farthestOfSeveral();
        weakestOfSeveral();
        sumOverAllRooms();
        meanOfAll();
        warmthAtTheTimeZero();
        whatIsLeftOfTheBattery();
        CHECKS.end();
    }

    private static String rooms(int many) {
        StringBuilder text = new StringBuilder();
        for (int i = 0; i < many; i++) {
            text.append("room ").append((char) ('a' + i)).append(" temp 200 power 1 loss 0;");
        }
        return text.toString();
    }

    /** A house of this text, so many ticks later. */
    private static ValveRoom later(String text, int ticks) {
        ValveRoom x = Checks.house(text);
        Checks.pass(x, ticks);
        return x;
    }

    // ---- which room and what

    /** "A room .. that does not exist causes an IndexOutOfBoundsException" */
    private static void roomsThatExist() {
        exists("room", (x, room) -> x.room(room, 0));
        exists("count", (x, room) -> x.count(room, 0));
        exists("target", (x, room) -> x.target(room));
        exists("programmed", (x, room) -> x.programmed(room, 0));
        exists("wanted", (x, room) -> x.wanted(room));
        exists("why", (x, room) -> x.why(room));
        exists("warmth", (x, room) -> x.warmth(room));
        exists("reckoned", (x, room) -> x.reckoned(room));
        exists("entry", (x, room) -> {
            if (room >= 0 && room < x.property(0)) {
                x.setProgram(room, 0, 100);
            }
            x.entry(room, 0);
        });
    }

    private static void exists(String name, Ask ask) {
        for (int many = 0; many <= 6; many++) {
            ValveRoom x = many == 0 ? new ValveRoom() : Checks.house(rooms(many));
            for (int room = 0; room < many; room++) {
                ask.of(x, room);
            }
            int[] none = {LEAST, -1, many, many + 1, 6, GREATEST};
            for (int room : none) {
                CHECKS.outOfIndex(name + " of room " + room + " of " + many, () -> ask.of(x, room));
            }
        }
        ValveRoom y = Checks.house(rooms(6));
        Checks.load(y, rooms(2));
        CHECKS.outOfIndex(name + " of room 2 behind load() of two", () -> ask.of(y, 2));
        y.undo();
        ask.of(y, 5);
    }

    /** "what: .." of property(), room(), count(), planned() and sum() */
    private static void whatInRange() {
        ranged("property", 11, (x, what) -> x.property(what));
        ranged("room", 10, (x, what) -> x.room(0, what));
        ranged("count", 5, (x, what) -> x.count(0, what));
        ranged("planned", 2, (x, what) -> x.planned(0, what));
        ranged("sum", 5, (x, what) -> x.sum(what));
        ValveRoom none = new ValveRoom();
        CHECKS.same("property(11) without rooms", none.property(11), 100);
        CHECKS.outOfRange("property(12) without rooms", () -> none.property(12));
        CHECKS.same("sum(5) without rooms", none.sum(5), 0);
        CHECKS.outOfRange("sum(6) without rooms", () -> none.sum(6));
        CHECKS.outOfIndex("room(0, 11) without rooms", () -> none.room(0, 11));
        CHECKS.outOfIndex("count(0, 6) without rooms", () -> none.count(0, 6));
        CHECKS.outOfIndex("planned(0, 3) without plans", () -> none.planned(0, 3));
    }

    private static void ranged(String name, int most, AskWhat ask) {
        ValveRoom x = Checks.house(A + "plan 1 a go;");
        for (int what = 0; what <= most; what++) {
            ask.of(x, what);
        }
        int[] none = {LEAST, -1, most + 1, most + 2, GREATEST};
        for (int what : none) {
            CHECKS.outOfRange(name + " of " + what, () -> ask.of(x, what));
        }
    }

    // ---- property and room

    /** "A day has 48 ticks"; "the time is 0 at first" */
    private static void dayOf48Ticks() {
        int[] times = {0, 1, 46, 47, 48, 49, 95, 96, 335, 336, 9999};
        for (int time : times) {
            ValveRoom x = later(A, time);
            CHECKS.same("the time", x.property(1), time);
            CHECKS.same("the tick of the day at " + time, x.property(2), time % 48);
        }
    }

    /** "plans to come": at most 20, and none that was carried out or dropped */
    private static void plansToCome() {
        ValveRoom x = Checks.house(A + "plan 2 a go;".repeat(19) + "plan 1 a go;");
        CHECKS.same("twenty", x.property(4), 20);
        x.tick(1);
        CHECKS.same("one carried out", x.property(4), 19);
        x.dropPlan(18);
        CHECKS.same("one dropped", x.property(4), 18);
        x.tick(1);
        CHECKS.same("none", x.property(4), 0);
        x.undo();
        CHECKS.same("undone", x.property(4), 18);
    }

    /** "(at first shut)", "(at first somebody)", "(0 at first)", "perhaps a program, an override" */
    private static void atFirst() {
        for (int many = 1; many <= 6; many++) {
            ValveRoom x = Checks.house(rooms(many));
            int[] due = {200, 0, 1000, 1, 0, 0, 1, 0, -1, 0, 0};
            for (int what = 0; what < due.length; what++) {
                CHECKS.same("room(" + (many - 1) + ", " + what + ")", x.room(many - 1, what), due[what]);
            }
            int last = many - 1;
            CHECKS.notThere("no program at first", () -> x.entry(last, 0));
        }
    }

    /** "8 its override, NONE without one; 9 ticks of the override left" */
    private static void overrideAndItsTicks() {
        int[] ticks = {0, 1, 2, 499, 500};
        for (int many : ticks) {
            ValveRoom x = Checks.house(A);
            x.override(0, 50, many);
            CHECKS.same("override of " + many, x.room(0, 8), many == 0 ? -1 : 50);
            CHECKS.same("ticks left of " + many, x.room(0, 9), many);
            Checks.pass(x, Math.max(1, many - 1));
            CHECKS.same("override nearly at its end", x.room(0, 8), many < 2 ? -1 : 50);
            CHECKS.same("its ticks", x.room(0, 9), many < 2 ? 0 : 1);
            x.tick(1);
            CHECKS.same("override at its end", x.room(0, 8), -1);
            CHECKS.same("no ticks", x.room(0, 9), 0);
            x.tick(1);
            CHECKS.same("no ticks still", x.room(0, 9), 0);
        }
    }

    // ---- target and programs

    /** "what stands at the latest tick of the day that is not later than that of the time" */
    private static void latestTickNotLater() {
        String text = A + "program a 0:60,1:70,24:80,46:90,47:100;";
        int[][] due = {{0, 60}, {1, 70}, {2, 70}, {23, 70}, {24, 80}, {25, 80}, {45, 80}, {46, 90}, {47, 100},
            {48, 60}, {49, 70}, {95, 100}, {96, 60}};
        for (int[] one : due) {
            ValveRoom x = later(text, one[0]);
            CHECKS.same("target at " + one[0], x.target(0), one[1]);
            CHECKS.same("programmed at " + one[0], x.programmed(0, one[0] % 48), one[1]);
        }
    }

    /** "if there is none, what stands at the last tick of the program" */
    private static void lastTickOfTheProgram() {
        String text = A + "program a 5:60,9:70,12:80;";
        int[][] due = {{0, 80}, {4, 80}, {5, 60}, {8, 60}, {9, 70}, {11, 70}, {12, 80}, {47, 80}, {48, 80}, {52, 80},
            {53, 60}};
        for (int[] one : due) {
            CHECKS.same("target at " + one[0], later(text, one[0]).target(0), one[1]);
        }
        ValveRoom x = Checks.house(A + "program a 47:60;");
        CHECKS.same("one entry, at 0", x.target(0), 60);
        for (int tick = 0; tick < 48; tick++) {
            CHECKS.same("one entry, programmed at " + tick, x.programmed(0, tick), 60);
        }
        x.setProgram(0, 46, 70);
        CHECKS.same("the last, not the latest told", x.target(0), 60);
    }

    /** "200 without a program" */
    private static void withoutAProgram() {
        ValveRoom x = Checks.house(A);
        CHECKS.same("none", x.target(0), 200);
        CHECKS.same("none at 0", x.programmed(0, 0), 200);
        CHECKS.same("none at 47", x.programmed(0, 47), 200);
        x.setProgram(0, 0, 50);
        CHECKS.same("one entry", x.target(0), 50);
        x.clearProgram(0, 0);
        CHECKS.same("none left", x.target(0), 200);
        CHECKS.same("none left at 47", x.programmed(0, 47), 200);
    }

    /** "if nobody is there, less by the setback"; "with an override, this" */
    private static void lessByTheSetback() {
        int[] setbacks = {0, 1, 149, 150};
        for (int setback : setbacks) {
            ValveRoom x = Checks.house("back " + setback + ";" + A + "room b temp 1;program b 0:50;room c temp 1;"
                    + "program c 0:300;");
            for (int room = 0; room < 3; room++) {
                int told = x.target(room);
                CHECKS.same("nobody is there", x.setPresent(room, false), told - setback);
                CHECKS.same("target", x.target(room), told - setback);
                CHECKS.same("programmed stays", x.programmed(room, 0), told);
                CHECKS.same("with an override", x.override(room, 50, 1), 50);
                CHECKS.same("target with it", x.target(room), 50);
                CHECKS.same("without it", x.override(room, 50, 0), told - setback);
                CHECKS.same("somebody is there", x.setPresent(room, true), told);
            }
        }
    }

    /** "tick: a tick of the day, 0 to 47" */
    private static void ticksOfTheDay() {
        ValveRoom x = Checks.house(A + "program a 0:60,47:70;room b temp 1;");
        CHECKS.same("programmed(0, 0)", x.programmed(0, 0), 60);
        CHECKS.same("programmed(0, 46)", x.programmed(0, 46), 60);
        CHECKS.same("programmed(0, 47)", x.programmed(0, 47), 70);
        int[] none = {LEAST, -48, -1, 48, 95, GREATEST};
        for (int tick : none) {
            CHECKS.outOfRange("programmed(0, " + tick + ")", () -> x.programmed(0, tick));
            CHECKS.outOfRange("programmed(1, " + tick + ") without a program", () -> x.programmed(1, tick));
            CHECKS.outOfIndex("programmed(2, " + tick + ")", () -> x.programmed(2, tick));
        }
    }

    /** "Throws NoSuchElementException if its program has not so many" */
    private static void entriesOfAProgram() {
        for (int many = 0; many <= 48; many++) {
            ValveRoom x = Checks.house(A);
            for (int i = 0; i < many; i++) {
                x.setProgram(0, i, 50 + i);
            }
            int end = many;
            if (many > 0) {
                CHECKS.same("the first of " + many, x.entry(0, 0), 50);
                CHECKS.same("the last of " + many, x.entry(0, many - 1), 1000 * (many - 1) + 49 + many);
            }
            CHECKS.notThere("one more of " + many, () -> x.entry(0, end));
            CHECKS.notThere("-1 of " + many, () -> x.entry(0, -1));
            CHECKS.notThere("the least of " + many, () -> x.entry(0, LEAST));
            CHECKS.notThere("the greatest of " + many, () -> x.entry(0, GREATEST));
            CHECKS.outOfIndex("in no room", () -> x.entry(1, end));
        }
    }

    // ---- wanted and why

    /** A room of this temperature, whose target is 200. */
    private static ValveRoom at(int band, int gain, int temperature, String more) {
        return Checks.house("control " + band + " " + gain + " 20;room a temp " + temperature + " " + more + ";");
    }

    /** "the valve as it is, if the target .. and the temperature differ by at most the band" */
    private static void wantedByTheBand() {
        int[] bands = {0, 1, 3, 49, 50};
        for (int band : bands) {
            CHECKS.same("at the target", at(band, 1, 200, "valve 77").wanted(0), 77);
            CHECKS.same("below by the band", at(band, 1, 200 - band, "valve 77").wanted(0), 77);
            CHECKS.same("above by the band", at(band, 1, 200 + band, "valve 77").wanted(0), 77);
            CHECKS.same("below by one more", at(band, 1, 199 - band, "valve 77").wanted(0), band + 1);
            CHECKS.same("above by one more", at(band, 1, 201 + band, "valve 77").wanted(0), 0);
        }
        CHECKS.same("with the valve at 0", at(0, 1, 200, "valve 0").wanted(0), 0);
        CHECKS.same("with the valve at 100", at(0, 1, 200, "valve 100").wanted(0), 100);
    }

    /** "the gain times what the target is above the temperature, 0 at least and 100 at most" */
    private static void wantedByTheGain() {
        int[][] due = {{1, 199, 1}, {1, 101, 99}, {1, 100, 100}, {1, 99, 100}, {1, 0, 100}, {1, 201, 0}, {1, 400, 0},
            {50, 199, 50}, {50, 198, 100}, {50, 197, 100}, {50, 0, 100}, {50, 201, 0}, {50, 400, 0},
            {9, 189, 99}, {10, 190, 100}, {33, 197, 99}, {34, 197, 100}, {20, 195, 100}, {20, 196, 80}};
        for (int[] one : due) {
            CHECKS.same("gain " + one[0] + " at " + one[1], at(0, one[0], one[1], "valve 55").wanted(0), one[2]);
        }
        // The target of now, not that of the next tick.
        ValveRoom x = Checks.house("control 0 1 20;room a temp 100 valve 55;program a 0:110,1:120;");
        CHECKS.same("the target at 0", x.wanted(0), 10);
        x.override(0, 130, 1);
        CHECKS.same("with an override of one tick", x.wanted(0), 30);
        x.override(0, 130, 0);
        x.setPresent(0, false);
        CHECKS.same("with nobody there", x.wanted(0), 0);
    }

    /** "0 in window mode (ticks of it are left)" */
    private static void wantedInWindowMode() {
        ValveRoom x = Checks.house("outside 0;window 10 hold 2;control 50 50 100;room a temp 150 power 1 loss 7;");
        x.turn(0, 40);
        CHECKS.same("no window mode", x.wanted(0), 40);
        x.tick(1);
        CHECKS.same("two ticks left", x.room(0, 7), 2);
        x.turn(0, 40);
        CHECKS.same("with two left", x.wanted(0), 0);
        x.setOutside(200);
        x.tick(1);
        CHECKS.same("one tick left", x.room(0, 7), 1);
        x.turn(0, 40);
        x.override(0, x.room(0, 0), 9);
        CHECKS.same("with one left, though within the band", x.wanted(0), 0);
        x.tick(1);
        CHECKS.same("none left", x.room(0, 7), 0);
        x.turn(0, 40);
        CHECKS.same("with none left", x.wanted(0), 40);
    }

    /** "0 it is not where it is wanted, and can be driven; 1 it is not, but the battery is 0" */
    private static void whyItCanBeDriven() {
        CHECKS.same("one below", at(0, 1, 190, "valve 9 battery 1").why(0), 0);
        CHECKS.same("one above", at(0, 1, 190, "valve 11 battery 1").why(0), 0);
        CHECKS.same("one below, battery 0", at(0, 1, 190, "valve 9 battery 0").why(0), 1);
        CHECKS.same("one above, battery 0", at(0, 1, 190, "valve 11 battery 0").why(0), 1);
        CHECKS.same("there, battery 0", at(0, 1, 190, "valve 10 battery 0").why(0), 5);
        CHECKS.same("there, battery 1", at(0, 1, 190, "valve 10 battery 1").why(0), 5);
        ValveRoom x = at(0, 1, 190, "valve 9 battery 0");
        x.newBattery(0, 1);
        CHECKS.same("a new battery", x.why(0), 0);
        CHECKS.same("with all batteries", at(0, 1, 190, "valve 9 battery 9999").why(0), 0);
    }

    /** "2 it is wanted there by window mode; 3 by the band; 4 as the target is not above the temperature; 5 as it is" */
    private static void whyItIsThere() {
        CHECKS.same("at the band below", at(4, 1, 196, "valve 4").why(0), 3);
        CHECKS.same("one more below", at(4, 1, 195, "valve 5").why(0), 5);
        CHECKS.same("at the band above", at(4, 1, 204, "valve 0").why(0), 3);
        CHECKS.same("one more above", at(4, 1, 205, "valve 0").why(0), 4);
        CHECKS.same("at the target, without a band", at(0, 1, 200, "valve 0").why(0), 3);
        CHECKS.same("one above it", at(0, 1, 201, "valve 0").why(0), 4);
        CHECKS.same("one below it", at(0, 1, 199, "valve 1").why(0), 5);
        CHECKS.same("at 100 at most", at(0, 50, 0, "valve 100").why(0), 5);
        CHECKS.same("at 0 at least", at(0, 50, 400, "valve 0").why(0), 4);
        String text = "outside 0;window 10 hold 1;control 3 1 100;room a temp 250 loss 7 battery 0;";
        ValveRoom x = Checks.house(text);
        CHECKS.same("ahead of window mode", x.why(0), 4);
        x.tick(1);
        CHECKS.same("one tick of window mode", x.why(0), 2);
        x.override(0, x.room(0, 0), 500);
        CHECKS.same("window mode ahead of the band", x.why(0), 2);
        x.turn(0, 1);
        CHECKS.same("not shut, though in window mode", x.why(0), 1);
        x.setOutside(400);
        x.tick(1);
        CHECKS.same("no window mode is left", x.room(0, 7), 0);
        x.override(0, x.room(0, 0), 500);
        CHECKS.same("behind window mode", x.why(0), 3);
    }

    // ---- plans

    /** "0 for the plan that comes next, by times, of the same time in the order in which they were told" */
    private static void plansByTimes() {
        ValveRoom x = Checks.house(rooms(6));
        for (int i = 0; i < 20; i++) {
            // Times 3, 2, 1, 3, 2, 1, .., and rooms by what was told first.
            x.plan(3 - i % 3, i % 6, i % 4);
        }
        int index = 0;
        for (int time = 1; time <= 3; time++) {
            for (int i = 3 - time; i < 20; i += 3) {
                CHECKS.same("time of " + index, x.planned(index, 0), time);
                CHECKS.same("room of " + index, x.planned(index, 1), i % 6);
                CHECKS.same("kind of " + index, x.planned(index, 2), i % 4);
                index++;
            }
        }
        CHECKS.same("all of them", index, 20);
        int[] none = {LEAST, -1, 20, 21, GREATEST};
        for (int plan : none) {
            CHECKS.outOfIndex("planned(" + plan + ", 0)", () -> x.planned(plan, 0));
            CHECKS.outOfIndex("planned(" + plan + ", 3)", () -> x.planned(plan, 3));
        }
        x.tick(2);
        int left = x.property(4);
        CHECKS.same("the last of those left", x.planned(left - 1, 0), 3);
        CHECKS.same("the first of those left", x.planned(0, 0), 3);
        CHECKS.outOfIndex("one more than those left", () -> x.planned(left, 0));
    }

    // ---- the rooms together

    private static String six(int[] values, String ahead, String behind) {
        StringBuilder text = new StringBuilder();
        for (int i = 0; i < values.length; i++) {
            text.append("room ").append((char) ('a' + i)).append(ahead).append(values[i]).append(behind);
        }
        return text.toString();
    }

    /** "the coldest room, the lowest one of several; NONE without rooms" */
    private static void coldestOfSeveral() {
        CHECKS.same("without rooms", new ValveRoom().coldest(), -1);
        CHECKS.same("all alike", Checks.house(six(new int[] {9, 9, 9, 9, 9, 9}, " temp ", ";")).coldest(), 0);
        CHECKS.same("the last two", Checks.house(six(new int[] {9, 9, 9, 9, 8, 8}, " temp ", ";")).coldest(), 4);
        CHECKS.same("the last", Checks.house(six(new int[] {9, 9, 9, 9, 9, 8}, " temp ", ";")).coldest(), 5);
        CHECKS.same("the first and the last", Checks.house(six(new int[] {8, 9, 9, 9, 9, 8}, " temp ", ";")).coldest(), 0);
        CHECKS.same("the warmest", Checks.house("room a temp 400;").coldest(), 0);
        ValveRoom x = Checks.house("outside -300;room a temp 0 loss 0;room b temp 0 loss 50;room c temp 0 loss 50;");
        x.tick(1);
        CHECKS.same("below 0", x.coldest(), 1);
    }

    /** "whose temperature differs most from its target, the lowest one of several; NONE without rooms" */
    private static void farthestOfSeveral() {
        CHECKS.same("without rooms", new ValveRoom().farthest(), -1);
        CHECKS.same("all at their targets", Checks.house(rooms(6)).farthest(), 0);
        CHECKS.same("above as below", Checks.house(six(new int[] {200, 203, 197, 196, 204, 200}, " temp ", ";"))
                .farthest(), 3);
        CHECKS.same("above ahead of below", Checks.house(six(new int[] {200, 204, 196}, " temp ", ";")).farthest(), 1);
        CHECKS.same("the last", Checks.house(six(new int[] {200, 200, 200, 200, 200, 201}, " temp ", ";")).farthest(), 5);
        CHECKS.same("the last below", Checks.house(six(new int[] {200, 201, 198}, " temp ", ";")).farthest(), 2);
    }

    /** "the room whose battery is the least, the lowest one of several; NONE without rooms" */
    private static void weakestOfSeveral() {
        String ahead = " temp 1 battery ";
        CHECKS.same("without rooms", new ValveRoom().weakest(), -1);
        CHECKS.same("all alike", Checks.house(six(new int[] {9, 9, 9}, ahead, ";")).weakest(), 0);
        CHECKS.same("all full", Checks.house(six(new int[] {9999, 9999}, ahead, ";")).weakest(), 0);
        CHECKS.same("two empty", Checks.house(six(new int[] {1, 0, 0, 1}, ahead, ";")).weakest(), 1);
        CHECKS.same("the last", Checks.house(six(new int[] {9, 9, 9, 9, 9, 8}, ahead, ";")).weakest(), 5);
        CHECKS.same("the first and the last", Checks.house(six(new int[] {8, 9, 8}, ahead, ";")).weakest(), 0);
    }

    /** "the sum over all rooms" */
    private static void sumOverAllRooms() {
        for (int many = 0; many <= 6; many++) {
            ValveRoom x = many == 0 ? new ValveRoom() : Checks.house("exercise 9;" + rooms(many));
            Checks.pass(x, 14);
            int[] due = {200 * many, 0, many, 0, 0, 0};
            for (int what = 0; what < due.length; what++) {
                CHECKS.same("sum(" + what + ") of " + many, x.sum(what), due[what]);
            }
        }
    }

    /** "the mean of all temperatures, as doubles; 0.0 without rooms" */
    private static void meanOfAll() {
        CHECKS.same("without rooms", new ValveRoom().meanTemp(), 0.0);
        CHECKS.same("of one at 0", Checks.house("room a temp 0;").meanTemp(), 0.0);
        CHECKS.same("of one", Checks.house("room a temp 400;").meanTemp(), 400.0);
        CHECKS.same("of six", Checks.house(six(new int[] {0, 1, 2, 3, 4, 400}, " temp ", ";")).meanTemp(), 410.0 / 6.0);
        CHECKS.same("of six at most", Checks.house(six(new int[] {400, 400, 400, 400, 400, 400}, " temp ", ";"))
                .meanTemp(), 400.0);
        ValveRoom x = Checks.house("outside -300;room a temp 0 loss 50;room b temp 0 loss 0;room c temp 0 loss 0;");
        x.tick(1);
        CHECKS.same("below 0", x.meanTemp(), -150.0 / 3.0);
    }

    /** "0.0f at the time 0" */
    private static void warmthAtTheTimeZero() {
        ValveRoom x = Checks.house("control 50 1 1;" + A);
        x.turn(0, 100);
        x.keep(0);
        CHECKS.same("at the time 0", x.warmth(0), 0.0f);
        x.tick(1);
        CHECKS.same("at the time 1", x.warmth(0), 1.0f);
        x.turn(0, 1);
        x.tick(2);
        CHECKS.same("at the time 3", x.warmth(0), 102.0f / 300.0f);
        x.undo();
        CHECKS.same("at the time 1 again", x.warmth(0), 1.0f);
        x.restore(0);
        CHECKS.same("at the time 0 again", x.warmth(0), 0.0f);
        ValveRoom y = Checks.house("control 50 1 1;" + A);
        y.tick(1);
        CHECKS.same("never open", y.warmth(0), 0.0f);
        y.turn(0, 33);
        y.tick(6);
        CHECKS.same("198 of 700", y.warmth(0), 198.0f / 700.0f);
    }

    /** "(always what is left)" */
    private static void whatIsLeftOfTheBattery() {
        int[] batteries = {0, 1, 9998, 9999};
        for (int battery : batteries) {
            ValveRoom x = Checks.house("exercise 1;room a temp 200 power 1 loss 0 battery " + battery + ";");
            CHECKS.same("as told", x.reckoned(0), battery);
            int steps = x.tick(1);
            CHECKS.same("steps", steps, Math.min(200, battery));
            CHECKS.same("less the steps", x.reckoned(0), battery - steps);
            CHECKS.same("what is left", x.room(0, 2), battery - steps);
            x.newBattery(0, 1);
            CHECKS.same("put in", x.reckoned(0), 1);
        }
    }
}
