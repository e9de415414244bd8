/** Promises 50 to 53: the output buffer. */
public final class OutputTest {
    private static final Checks CHECKS = new Checks();

    public static void main(String[] arguments) {
        writeRooms();
        writeProgram();
        writePlans();
        outputByte();
        CHECKS.end();
    }

    private static void rooms(ValveRoom x, String due) {
        CHECKS.same("writeRooms()", Checks.output(x, x.writeRooms()), due);
    }

    private static void writeRooms() {
        rooms(new ValveRoom(), "");
        ValveRoom x = Checks.house("outside 0;back 25;window 20 hold 2;room a temp 190 valve 7;"
                + "room abcdef temp 0 loss 0 valve 100;room hall temp 400 loss 5 valve 0;program a 0:150,5:100;");
        rooms(x, "a:190>150/7 abcdef:0>200/100 hall:400>200/0");
        x.setWindow(0, true);
        x.setPresent(1, false);
        rooms(x, "a:190>150/7w abcdef:0>175/100n hall:400>200/0");
        x.setPresent(0, false);
        x.override(0, 222, 9);
        rooms(x, "a:190>222/7wn abcdef:0>175/100n hall:400>200/0");
        x.tick(1);
        // a: 190 + 0 - 26; hall: 400 - 20
        rooms(x, "a:164>222/0wnm abcdef:10>175/100n hall:380>200/0m");
        ValveRoom y = Checks.house("outside 0;window 10 hold 2;room z temp 100 loss 10 battery 0;");
        y.tick(2);
        // 100 - 10 - 9
        CHECKS.same("one tick of window mode left", y.room(0, 7), 1);
        rooms(y, "z:81>200/0m");
        y.tick(1);
        rooms(y, "z:73>200/0");
        x.setPresent(0, true);
        rooms(x, "a:164>222/0wm abcdef:10>175/100n hall:380>200/0m");
        x.setOutside(-300);
        x.tick(200);
        String text = Checks.output(x, x.writeRooms());
        CHECKS.that("below 0 in " + text, text.startsWith("a:-"));
        CHECKS.same("nothing is undone by it", x.undoCount(), 6);
    }

    private static void writeProgram() {
        ValveRoom x = Checks.house("room a temp 1;room b temp 1;program b 47:300,0:50,9:100;");
        CHECKS.same("writeProgram(1)", Checks.output(x, x.writeProgram(1)), "0:50,9:100,47:300");
        CHECKS.same("writeProgram(0)", Checks.output(x, x.writeProgram(0)), "");
        x.setProgram(0, 3, 60);
        CHECKS.same("writeProgram(0) of one", Checks.output(x, x.writeProgram(0)), "3:60");
        CHECKS.outOfIndex("writeProgram(2)", () -> x.writeProgram(2));
        CHECKS.outOfIndex("writeProgram(-1)", () -> x.writeProgram(-1));
        CHECKS.same("the output of before stays", x.outputByte(3), '0');
        for (int tick = 0; tick < 48; tick++) {
            x.setProgram(0, tick, 100 + tick);
        }
        CHECKS.same("a full program", x.writeProgram(0), 10 * 5 + 38 * 6 + 47);
    }

    private static void writePlans() {
        ValveRoom x = Checks.house("room a temp 1;room b temp 1;plan 9999 b go;plan 4 a come;plan 9 a open;plan 4 b close;");
        CHECKS.same("writePlans()", Checks.output(x, x.writePlans()), "4@0+ 4@1c 9@0o 9999@1-");
        x.tick(9);
        CHECKS.same("writePlans() of one", Checks.output(x, x.writePlans()), "9999@1-");
        x.dropPlan(0);
        CHECKS.same("writePlans() of none", x.writePlans(), 0);
        CHECKS.same("writePlans() without rooms", new ValveRoom().writePlans(), 0);
    }

    private static void outputByte() {
        ValveRoom x = Checks.house("room a temp 1;program a 10:234;");
        CHECKS.notThere("outputByte(0)", () -> x.outputByte(0));
        CHECKS.same("writeProgram(0)", x.writeProgram(0), 6);
        int[] due = {'1', '0', ':', '2', '3', '4'};
        for (int i = 0; i < due.length; i++) {
            CHECKS.same("outputByte(" + i + ")", x.outputByte(i), due[i]);
        }
        CHECKS.notThere("outputByte(6)", () -> x.outputByte(6));
        CHECKS.notThere("outputByte(-1)", () -> x.outputByte(-1));
        CHECKS.notThere("outputByte(greatest)", () -> x.outputByte(Integer.MAX_VALUE));
        CHECKS.same("replaced by nothing", x.writePlans(), 0);
        CHECKS.notThere("outputByte(0) behind it", () -> x.outputByte(0));
        x.writeRooms();
        CHECKS.same("replaced by more", x.outputByte(0), 'a');
        x.tick(1);
        CHECKS.same("a change leaves it", x.outputByte(2), '1');
    }
}
