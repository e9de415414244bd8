/** Promises 50 to 53, at the edges that their sentences name: a test for each sentence. */
public final class EdgeOutputTest {
    private static final Checks CHECKS = new Checks();

    public static void main(String[] arguments) {
        emptyAtFirst();
        roomsFromNoneToSix();
        eachIfItIsSo();
        leastAndGreatestNumbers();
        windowModeByItsTicks();
        programsFromNoneToFull();
        programOfNoRoom();
        plansFromNoneToTwenty();
        replacingItsContent();
        indexIntoTheOutput();
        CHECKS.end();
    }

    private static void written(ValveRoom x, String what, int length, String due) {
        CHECKS.same(what + ": its length", length, due.length());
        CHECKS.same(what, Checks.output(x, length), due);
        CHECKS.notThere(what + ": a byte behind it", () -> x.outputByte(length));
        CHECKS.notThere(what + ": a byte ahead of it", () -> x.outputByte(-1));
    }

    /** "with empty buffers" */
    private static void emptyAtFirst() {
        int[] none = {Integer.MIN_VALUE, -1, 0, 1, Integer.MAX_VALUE};
        for (int index : none) {
            CHECKS.notThere("outputByte(" + index + ") of a new object", () -> new ValveRoom().outputByte(index));
        }
        ValveRoom x = Checks.house("room a temp 1;");
        CHECKS.notThere("outputByte(0) behind load()", () -> x.outputByte(0));
        CHECKS.outOfIndex("writeProgram(1)", () -> x.writeProgram(1));
        CHECKS.notThere("outputByte(0) behind a refused call", () -> x.outputByte(0));
    }

    /** "for each its name, a colon, its temperature ..; separated by spaces" */
    private static void roomsFromNoneToSix() {
        ValveRoom none = new ValveRoom();
        written(none, "no rooms", none.writeRooms(), "");
        StringBuilder text = new StringBuilder();
        StringBuilder due = new StringBuilder();
        for (int i = 0; i < 6; i++) {
            String name = "abcdef".substring(0, i + 1);
            text.append("room ").append(name).append(" temp ").append(i).append(" valve ").append(10 * i).append(';');
            due.append(i > 0 ? " " : "").append(name).append(':').append(i).append(">200/").append(10 * i);
            ValveRoom x = Checks.house(text.toString());
            written(x, (i + 1) + " rooms", x.writeRooms(), due.toString());
        }
    }

    /** "then, each if it is so, w (window open), n (nobody there), m (window mode)" */
    private static void eachIfItIsSo() {
        for (int which = 0; which < 8; which++) {
            boolean open = (which & 1) != 0;
            boolean nobody = (which & 2) != 0;
            boolean mode = (which & 4) != 0;
            ValveRoom x = Checks.house("outside 0;window " + (mode ? 9 : 10) + " hold 1;room a temp 100 power 1 loss 9"
                    + " battery 0;room b temp 5 loss 0;");
            x.tick(1);
            x.setWindow(0, open);
            x.setPresent(0, !nobody);
            String due = "a:91>" + (nobody ? 170 : 200) + "/0" + (open ? "w" : "") + (nobody ? "n" : "") + (mode ? "m" : "");
            written(x, due, x.writeRooms(), due + " b:5>200/20");
        }
    }

    /** The numbers at their ends, below 0 too */
    private static void leastAndGreatestNumbers() {
        ValveRoom x = Checks.house("outside - 300;back 150;room a temp 0 loss 50 valve 100;room b temp 400 loss 0;"
                + "program a 0:50;program b 0:300;");
        written(x, "at first", x.writeRooms(), "a:0>50/100 b:400>300/0");
        x.setPresent(0, false);
        x.setWindow(0, true);
        x.tick(1);
        // 100 * 10 / 100 up and 60 * 300 / 100 down
        written(x, "below 0", x.writeRooms(), "a:-170>-100/80wnm b:400>300/0");
        ValveRoom y = Checks.house("back 150;room a temp 0 loss 0;program a 0:150;");
        y.setPresent(0, false);
        written(y, "0", y.writeRooms(), "a:0>0/0n");
    }

    /** "m (window mode)": as long as ticks of it are left */
    private static void windowModeByItsTicks() {
        ValveRoom x = Checks.house("outside 0;window 9 hold 2;room a temp 100 power 1 loss 9 battery 0;");
        written(x, "none", x.writeRooms(), "a:100>200/0");
        x.tick(1);
        written(x, "two left", x.writeRooms(), "a:91>200/0m");
        x.setOutside(91);
        x.tick(1);
        written(x, "one left", x.writeRooms(), "a:91>200/0m");
        x.tick(1);
        written(x, "none left", x.writeRooms(), "a:91>200/0");
    }

    /** "for each entry, by the ticks of the day, this tick, a colon and the target; separated by commas" */
    private static void programsFromNoneToFull() {
        ValveRoom x = Checks.house("room a temp 1;room b temp 1;");
        written(x, "no program", x.writeProgram(1), "");
        StringBuilder due = new StringBuilder();
        for (int tick = 0; tick < 48; tick++) {
            x.setProgram(1, tick, tick < 24 ? 50 + tick : 253 + tick);
            due.append(tick > 0 ? "," : "").append(tick).append(':').append(tick < 24 ? 50 + tick : 253 + tick);
            if (tick == 0 || tick == 1 || tick == 10) {
                written(x, "up to " + tick, x.writeProgram(1), due.toString());
            }
        }
        CHECKS.same("a full program", x.writeProgram(1), due.length());
        CHECKS.same("its last byte", x.outputByte(due.length() - 1), '0');
        CHECKS.notThere("a byte behind it", () -> x.outputByte(due.length()));
        ValveRoom full = Checks.house("room a temp 1;program a " + due + ";");
        written(full, "a full program, all of it", full.writeProgram(0), due.toString());
        written(full, "an emptied one", emptied(full), "");
    }

    private static int emptied(ValveRoom x) {
        for (int tick = 0; tick < 48; tick++) {
            x.clearProgram(0, tick);
        }
        return x.writeProgram(0);
    }

    /** "Throws IndexOutOfBoundsException if there is no such room", and leaves what was written */
    private static void programOfNoRoom() {
        ValveRoom x = Checks.house("room a temp 1;program a 7:77;");
        CHECKS.same("its length", x.writeProgram(0), 4);
        int[] none = {Integer.MIN_VALUE, -1, 1, 6, Integer.MAX_VALUE};
        for (int room : none) {
            CHECKS.outOfIndex("writeProgram(" + room + ")", () -> x.writeProgram(room));
            CHECKS.outOfIndex("writeProgram(" + room + ") without rooms", () -> new ValveRoom().writeProgram(room));
        }
        CHECKS.same("what was written", Whole.output(x), "7:77");
    }

    /** "for each its time, the byte @, the number of its room and the byte o, c, + or - .., separated by spaces" */
    private static void plansFromNoneToTwenty() {
        ValveRoom x = Checks.house("room a temp 1;room b temp 1;room c temp 1;room d temp 1;room e temp 1;room f temp 1;");
        written(x, "no plans", x.writePlans(), "");
        StringBuilder due = new StringBuilder();
        for (int i = 0; i < 20; i++) {
            int time = i < 10 ? i + 1 : 9980 + i;
            x.plan(time, i % 6, i % 4);
            due.append(i > 0 ? " " : "").append(time).append('@').append(i % 6).append("oc+-".charAt(i % 4));
            if (i < 5) {
                written(x, "plans up to " + i, x.writePlans(), due.toString());
            }
        }
        written(x, "twenty plans", x.writePlans(), due.toString());
        CHECKS.inWrongState("a 21st", () -> x.plan(9999, 0, 0));
        written(x, "still twenty", x.writePlans(), due.toString());
        ValveRoom y = Checks.house("room a temp 1;");
        y.tick(200);
        y.plan(200 + 9999, 0, ValveRoom.GO);
        written(y, "above 9999", y.writePlans(), "10199@0-");
    }

    /** "replacing its content" */
    private static void replacingItsContent() {
        ValveRoom x = Checks.house("room abc temp 100;program abc 10:100,20:200;plan 12 abc go;");
        written(x, "the rooms", x.writeRooms(), "abc:100>200/0");
        written(x, "as long, in place of them", x.writeProgram(0), "10:100,20:200");
        written(x, "shorter", x.writePlans(), "12@0-");
        written(x, "longer", x.writeRooms(), "abc:100>200/0");
        written(x, "the same again", x.writeRooms(), "abc:100>200/0");
        x.dropPlan(0);
        written(x, "nothing in place of something", x.writePlans(), "");
        written(x, "something in place of nothing", x.writeProgram(0), "10:100,20:200");
        Checks.load(x, "room z temp 1;");
        written(x, "load() leaves it", 13, "10:100,20:200");
    }

    /** "index into the output buffer"; "Throws NoSuchElementException if there is no such byte" */
    private static void indexIntoTheOutput() {
        ValveRoom x = Checks.house("room abc temp 7;");
        int length = x.writeRooms();
        CHECKS.same("the length", length, 11);
        CHECKS.same("the first", x.outputByte(0), 'a');
        CHECKS.same("the last", x.outputByte(10), '0');
        int[] none = {Integer.MIN_VALUE, -1, 11, 12, 20, Integer.MAX_VALUE};
        for (int index : none) {
            CHECKS.notThere("outputByte(" + index + ")", () -> x.outputByte(index));
        }
        CHECKS.same("the last still", x.outputByte(10), '0');
    }
}
