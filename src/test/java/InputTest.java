/** Promises 1 to 7 and section 1: the input buffer, the statements, the errors, the names. */
public final class InputTest {
    private static final Checks CHECKS = new Checks();

    public static void main(String[] arguments) {
        newObject();
        append();
        truncate();
        loadAnswers();
        loadKeepsApart();
        withoutStatements();
        rangesOfNumbers();
        optionalParts();
        misplaced();
        outOfRange();
        toldAgain();
        unknownNames();
        tooMany();
        smallestCode();
        tokens();
        find();
        CHECKS.end();
    }

    private static void newObject() {
        ValveRoom x = new ValveRoom();
        int[] due = {0, 0, 0, 50, 0, 8, 3, 30, 3, 5, 20, 100};
        for (int i = 0; i < due.length; i++) {
            CHECKS.same("new: property(" + i + ")", x.property(i), due[i]);
        }
        CHECKS.same("new: errorCode()", x.errorCode(), 0);
        CHECKS.same("new: errorPosition()", x.errorPosition(), -1);
        CHECKS.same("new: undoCount()", x.undoCount(), 0);
        CHECKS.outOfIndex("new: room(0, 0)", () -> x.room(0, 0));
        CHECKS.outOfIndex("new: planned(0, 0)", () -> x.planned(0, 0));
        CHECKS.inWrongState("new: restore(0)", () -> x.restore(0));
        CHECKS.inWrongState("new: restore(1)", () -> x.restore(1));
        CHECKS.inWrongState("new: undo()", () -> x.undo());
        CHECKS.notThere("new: outputByte(0)", () -> x.outputByte(0));
        CHECKS.outOfRange("new: truncate(1)", () -> x.truncate(1));
        CHECKS.same("new: the time passes", x.tick(200), 0);
        CHECKS.same("new: the time", x.property(1), 200);
        CHECKS.same("new: setOutside(-300)", x.setOutside(-300), 50);
        CHECKS.same("new: setControl(0, 1, 1)", x.setControl(0, 1, 1), 305020);
    }

    private static void append() {
        ValveRoom x = new ValveRoom();
        // "room bath temp 187;" and a newline
        CHECKS.same("append(..)", x.append(0x726f6f6d, 0x20626174, 0x68207465, 0x6d702031, 0x38373b0a), 20);
        CHECKS.same("load() of room bath temp 187;", x.load(), 1);
        CHECKS.same("its temperature", x.room(0, 0), 187);
        for (int i = 1; i <= 25; i++) {
            CHECKS.same("append() " + i, x.append(0, 0, 0, 0, 0), 20 * i);
        }
        CHECKS.inWrongState("append() behind 500 bytes", () -> x.append(0, 0, 0, 0, 0));
        x.truncate(481);
        CHECKS.inWrongState("append() behind 481 bytes", () -> x.append(0, 0, 0, 0, 0));
        x.truncate(480);
        CHECKS.same("append() behind 480 bytes", x.append(0, 0, 0, 0, 0), 500);
        x.truncate(7);
        CHECKS.same("append() behind 7 bytes", x.append(-1, -1, -1, -1, -1), 27);
        CHECKS.same("append() is not undone", x.undoCount(), 1);
    }

    private static void truncate() {
        ValveRoom x = new ValveRoom();
        x.truncate(0);
        Checks.type(x, "room a temp 100;room b temp 200;");
        CHECKS.outOfRange("truncate(33) of 32", () -> x.truncate(33));
        CHECKS.outOfRange("truncate(-1)", () -> x.truncate(-1));
        CHECKS.outOfRange("truncate(least)", () -> x.truncate(Integer.MIN_VALUE));
        x.truncate(32);
        x.truncate(16);
        CHECKS.outOfRange("truncate(17) of 16", () -> x.truncate(17));
        CHECKS.same("load() of the first 16", x.load(), 1);
        CHECKS.outOfRange("truncate(1) behind load()", () -> x.truncate(1));
    }

    private static void loadAnswers() {
        ValveRoom x = new ValveRoom();
        CHECKS.same("load() without rooms", Checks.load(x, "back 0;"), 0);
        CHECKS.same("the setback", x.property(7), 0);
        CHECKS.same("load() of two rooms", Checks.load(x, "room a temp 1;room b temp 2;"), 2);
        CHECKS.same("the setback without statement", x.property(7), 30);
        CHECKS.same("an error", Checks.load(x, "room a temp 1"), ValveRoom.PARSE_ERROR);
        CHECKS.same("its code", x.errorCode(), 1);
        CHECKS.same("its position", x.errorPosition(), 13);
        CHECKS.same("rooms behind an error", x.property(0), 2);
        CHECKS.same("undoCount() behind an error", x.undoCount(), 2);
        CHECKS.same("an error empties the buffer", x.append(0, 0, 0, 0, 0), 20);
        x.truncate(0);
        CHECKS.same("behind an error", Checks.load(x, "outside 1;back 1;window 1 hold 1;exercise"), -4);
        CHECKS.same("load() empties the buffer", Checks.load(x, "exercise 7;back 5;outside 3;"), 0);
        CHECKS.same("append() behind load()", x.append(0, 0, 0, 0, 0), 20);
        x.truncate(0);
        CHECKS.same("the same statement in another text", Checks.load(x, "exercise 8;"), 0);
        CHECKS.same("no error", x.errorCode(), 0);
        CHECKS.same("no position", x.errorPosition(), -1);
    }

    private static void loadKeepsApart() {
        ValveRoom x = Checks.house("control 0 50 100;room a temp 100 battery 500;program a 3:120;plan 9 a go;");
        x.tick(5);
        x.keep(1);
        int length = x.writeRooms();
        String before = Checks.output(x, length);
        CHECKS.same("load() anew", Checks.load(x, "room a temp 150;"), 1);
        CHECKS.same("the output stays", Checks.output(x, length), before);
        CHECKS.same("the time", x.property(1), 0);
        CHECKS.same("no plans", x.property(4), 0);
        CHECKS.same("the heat", x.room(0, 10), 0);
        CHECKS.same("no program", x.programmed(0, 3), 200);
        for (int i = 0; i < 6; i++) {
            CHECKS.same("count(0, " + i + ")", x.count(0, i), 0);
        }
        CHECKS.same("the gain", x.property(9), 5);
        CHECKS.same("load() adds to what can be undone", x.undoCount(), 3);
        CHECKS.same("the slot stays", x.restore(1), 5);
        CHECKS.same("the gain kept", x.property(9), 50);
    }

    private static void withoutStatements() {
        ValveRoom x = Checks.house("room a temp 123;");
        int[] due = {123, 0, 1000, 10, 4, 0, 1, 0, -1, 0, 0};
        for (int i = 0; i < due.length; i++) {
            CHECKS.same("room(0, " + i + ")", x.room(0, i), due[i]);
        }
        int[] house = {1, 0, 0, 50, 0, 8, 3, 30, 3, 5, 20, 100};
        for (int i = 0; i < house.length; i++) {
            CHECKS.same("property(" + i + ")", x.property(i), house[i]);
        }
    }

    private static void rangesOfNumbers() {
        ValveRoom x = Checks.house("outside 0;window 1 hold 1;back 0;control 0 1 1;exercise 0;"
                + "room a temp 0 power 1 loss 0 valve 0 battery 0;program a 0:50;plan 1 a open;");
        checkNumbers(x, new int[] {1, 0, 0, 0, 1, 1, 1, 0, 0, 1, 1, 0}, new int[] {0, 0, 0, 1, 0});
        CHECKS.same("least entry", x.entry(0, 0), 50);
        CHECKS.same("earliest plan", x.planned(0, 0), 1);
        x = Checks.house("outside 400;window 99 hold 48;back 150;control 50 50 100;exercise 335;"
                + "room abcdef temp 400 power 50 loss 50 valve 100 battery 9999;program abcdef 47:300;"
                + "plan 9999 abcdef go;");
        checkNumbers(x, new int[] {1, 0, 0, 400, 1, 99, 48, 150, 50, 50, 100, 335}, new int[] {400, 100, 9999, 50, 50});
        CHECKS.same("greatest entry", x.entry(0, 0), 47300);
        CHECKS.same("latest plan", x.planned(0, 0), 9999);
        CHECKS.same("outside - 300", Checks.house("outside - 300;").property(3), -300);
        CHECKS.same("outside -0", Checks.house("outside -0;").property(3), 0);
    }

    private static void checkNumbers(ValveRoom x, int[] house, int[] room) {
        for (int i = 0; i < house.length; i++) {
            CHECKS.same("property(" + i + ")", x.property(i), house[i]);
        }
        for (int i = 0; i < room.length; i++) {
            CHECKS.same("room(0, " + i + ")", x.room(0, i), room[i]);
        }
    }

    private static void optionalParts() {
        String[] words = {"power 7 ", "loss 8 ", "valve 9 ", "battery 6 "};
        int[] numbers = {3, 4, 1, 2};
        int[] told = {7, 8, 9, 6};
        int[] without = {10, 4, 0, 1000};
        for (int which = 0; which < 16; which++) {
            StringBuilder text = new StringBuilder("room a temp 5 ");
            for (int i = 0; i < 4; i++) {
                text.append((which >> i & 1) != 0 ? words[i] : "");
            }
            ValveRoom x = Checks.house(text.append(';').toString());
            for (int i = 0; i < 4; i++) {
                CHECKS.same(text + " room(0, " + numbers[i] + ")", x.room(0, numbers[i]),
                        (which >> i & 1) != 0 ? told[i] : without[i]);
            }
        }
    }

    private static void error(String text, int code, int position) {
        CHECKS.misread(text, code, position);
    }

    private static void misplaced() {
        error("", 1, 0);
        error(" \n ", 1, 3);
        error(";", 1, 0);
        error("hold 3;", 1, 0);
        error("open;", 1, 0);
        error("5;", 1, 0);
        error("kitchen;", 1, 0);
        error("Room a temp 1;", 1, 0);
        error("outside ;", 1, 8);
        error("outside + 5;", 1, 8);
        error("outside --5;", 1, 9);
        error("outside 5", 1, 9);
        error("outside 5  \n", 1, 12);
        error("outside 5 back 3;", 1, 10);
        error("outside 5;;", 1, 10);
        error("window 5;", 1, 8);
        error("window 5 hold;", 1, 13);
        error("window 5 hold 3 4;", 1, 16);
        error("control 1 2;", 1, 11);
        error("exercise -1;", 1, 9);
        error("room;", 1, 4);
        error("room 5 temp 1;", 1, 5);
        error("room room temp 1;", 1, 5);
        error("room go temp 1;", 1, 5);
        error("room abcdefg temp 1;", 1, 5);
        error("room a;", 1, 6);
        error("room a power 5;", 1, 7);
        error("room a temp;", 1, 11);
        error("room a temp - 5;", 1, 12);
        error("room a temp 5 loss 1 power 1;", 1, 21);
        error("room a temp 5 valve 1 valve 1;", 1, 22);
        error("room a temp 5 battery 1 valve 1;", 1, 24);
        error("room a temp 5,", 1, 13);
        error("program 5:100;", 1, 8);
        error("program abcdefg 5:100;", 1, 8);
        error("room a temp 5;program a;", 1, 23);
        error("room a temp 5;program a :100;", 1, 24);
        error("room a temp 5;program a 5 100;", 1, 26);
        error("room a temp 5;program a 5:100,;", 1, 30);
        error("room a temp 5;program a 5:100 6:100;", 1, 30);
        error("room a temp 5;plan a open;", 1, 19);
        error("room a temp 5;plan 5 open;", 1, 21);
        error("room a temp 5;plan 5 a;", 1, 22);
        error("room a temp 5;plan 5 a b;", 1, 23);
        error("room a temp 5;plan 5 a hold;", 1, 23);
        error("room a temp 5;plan 5 a go go;", 1, 26);
    }

    private static void outOfRange() {
        error("outside 401;", 2, 8);
        error("outside -301;", 2, 9);
        error("outside 99999999999999999999;", 2, 8);
        error("window 0 hold 1;", 2, 7);
        error("window 100 hold 1;", 2, 7);
        error("window 5 hold 0;", 2, 14);
        error("window 5 hold 49;", 2, 14);
        error("back 151;", 2, 5);
        error("control 51 1 1;", 2, 8);
        error("control 0 0 1;", 2, 10);
        error("control 0 51 1;", 2, 10);
        error("control 0 1 0;", 2, 12);
        error("control 0 1 101;", 2, 12);
        error("exercise 336;", 2, 9);
        error("room a temp 401;", 2, 12);
        error("room a temp 1 power 0;", 2, 20);
        error("room a temp 1 power 51;", 2, 20);
        error("room a temp 1 loss 51;", 2, 19);
        error("room a temp 1 valve 101;", 2, 20);
        error("room a temp 1 battery 10000;", 2, 22);
        error("room a temp 1;program a 48:100;", 2, 24);
        error("room a temp 1;program a 47:49;", 2, 27);
        error("room a temp 1;program a 47:301;", 2, 27);
        error("room a temp 1;program a 4294967296:100;", 2, 24);
        error("room a temp 1;plan 0 a go;", 2, 19);
        error("room a temp 1;plan 10000 a go;", 2, 19);
    }

    private static void toldAgain() {
        error("outside 1;outside 1;", 3, 10);
        error("window 1 hold 1;window", 3, 16);
        error("back 1;back 1;", 3, 7);
        error("control 1 1 1;back 1;control 1 1 1;", 3, 21);
        error("exercise 1;exercise 1;", 3, 11);
        error("room a temp 1;room b temp 1;room a temp 1;", 3, 33);
        error("room a temp 1;program a 1:100;program a 2:100;", 3, 38);
        error("room a temp 1;program a 1:100,2:100,1:100;", 3, 36);
        error("room a temp 1;program a 1:100,01:100;", 3, 30);
        CHECKS.same("all at most once", Checks.load(new ValveRoom(),
                "exercise 1;control 1 1 1;back 1;window 1 hold 1;outside 1;"), 0);
    }

    private static void unknownNames() {
        error("program a 1:100;", 4, 8);
        error("room a temp 1;program b 1:100;", 4, 22);
        error("room a temp 1;program aa 1:100;", 4, 22);
        error("room aa temp 1;program a 1:100;", 4, 23);
        error("plan 1 a go;room a temp 1;", 4, 7);
        error("room a temp 1;plan 1 b go;", 4, 21);
    }

    private static void tooMany() {
        StringBuilder rooms = new StringBuilder();
        for (char name = 'a'; name <= 'f'; name++) {
            rooms.append("room ").append(name).append(" temp 1;");
        }
        CHECKS.same("six rooms", Checks.load(new ValveRoom(), rooms.toString()), 6);
        error(rooms + "room g temp 1;", 5, 84);
        error(rooms + "room a temp 1;", 5, 84);
        StringBuilder plans = new StringBuilder("room a temp 1;");
        for (int i = 0; i < 20; i++) {
            plans.append("plan ").append(i % 9 + 1).append(" a go;");
        }
        ValveRoom x = new ValveRoom();
        CHECKS.same("twenty plans", Checks.load(x, plans.toString()), 1);
        CHECKS.same("plans to come", x.property(4), 20);
        error(plans + "plan", 5, 14 + 20 * 12);
    }

    private static void smallestCode() {
        // Each of these tokens has two errors.
        error("outside 1 outside 2;", 1, 10);
        error("room a temp 1 room", 1, 14);
        StringBuilder rooms = new StringBuilder();
        for (char name = 'a'; name <= 'f'; name++) {
            rooms.append("room ").append(name).append(" temp 1;");
        }
        error(rooms.substring(0, rooms.length() - 1) + " room g", 1, 84);
        // An error in front counts, whatever stands behind it.
        error("back 151;back 1;", 2, 5);
        error("program a 48:100;", 4, 8);
    }

    private static void tokens() {
        ValveRoom x = new ValveRoom();
        CHECKS.same("few spaces", Checks.load(x, "room a temp100power20;plan0007a go;program a1:60,0:70;"), 1);
        CHECKS.same("its temperature", x.room(0, 0), 100);
        CHECKS.same("its power", x.room(0, 3), 20);
        CHECKS.same("its plan", x.planned(0, 0), 7);
        CHECKS.same("its first entry", x.entry(0, 0), 70);
        CHECKS.same("many spaces", Checks.load(x, "\n\n outside\n-\n 0000000000000000000000000000000000012\n;\n"), 0);
        CHECKS.same("outside -12", x.property(3), -12);
        error("outside\t5;", 1, 7);
        error("outside\r5;", 1, 7);
        error("outside 5\u00e9;", 1, 9);
        error("outside 5\u0000;", 1, 9);
        error("room a\u00ff temp 1;", 1, 6);
        error("room aB temp 1;", 1, 6);
        error("out side 5;", 1, 0);
        error("outside 5 0;", 1, 10);
        error("outsidehold 5;", 1, 0);
        error("{outside 5;", 1, 0);
        error(";".repeat(500), 1, 0);
        error("a1".repeat(250), 1, 0);
        error(" ".repeat(500), 1, 500);
        error("room a temp 100;" + " ".repeat(483) + "x", 1, 499);
        CHECKS.same("letters", Checks.load(x, "room azhmz temp 1;room z temp 1;"), 2);
    }

    private static void find() {
        ValveRoom x = Checks.house("room a temp 1;room hall temp 1;room abcdef temp 1;");
        finds(x, "a", 0);
        finds(x, "hall", 1);
        finds(x, "abcdef", 2);
        finds(x, "", -1);
        finds(x, "hal", -1);
        finds(x, "halls", -1);
        finds(x, "hall ", -1);
        finds(x, " hall", -1);
        finds(x, "Hall", -1);
        finds(x, "\u00e1", -1);
        CHECKS.same("find() empties the buffer", x.append(0, 0, 0, 0, 0), 20);
        finds(new ValveRoom(), "", -1);
        finds(new ValveRoom(), "a", -1);
        Checks.load(x, "!");
        x.truncate(0);
        Checks.load(x, "room b temp 1;");
        finds(x, "a", -1);
        finds(x, "hall", -1);
        finds(x, "b", 0);
    }

    private static void finds(ValveRoom x, String name, int due) {
        Checks.type(x, name);
        CHECKS.same("find() of \"" + name + "\"", x.find(), due);
        CHECKS.outOfRange("truncate(1) behind find()", () -> x.truncate(1));
    }
}
