/** Promises 2 to 7 and section 1, at the edges that their sentences name: a test for each sentence. */
public final class EdgeInputTest {
    private static final Checks CHECKS = new Checks();
    private static final String[] KEYWORDS = {"outside", "window", "hold", "back", "control", "exercise", "room", "temp",
        "power", "loss", "valve", "battery", "program", "plan", "open", "close", "come", "go"};
    private static final String A = "room a temp 5;";

    private interface Read {
        int of(ValveRoom x);
    }

    public static void main(String[] arguments) {
        atMost500Bytes();
        mostSignificantByteFirst();
        zeroToTheCurrentLength();
        oneOrMoreStatements();
        eachStatementEndsWithSemicolon();
        lettersOfAWord();
        digitsOfANumber();
        separatorsOnlySeparate();
        numbersOfAnyLength();
        rangesOfNumbers();
        minusSignOnlyOutside();
        withoutThem();
        nameOfOneToSixLetters();
        nameThatIsNoKeyword();
        kindsOfPlans();
        wordsOfStatements();
        onceAtMost();
        sixRooms();
        twentyPlans();
        asManyTokensAsBytes();
        fullProgram();
        programOfOneRoom();
        nameOfAnotherRoom();
        toldAhead();
        leftOutInTheirOrder();
        firstErrorCounts();
        smallestCode();
        endOfTheText();
        errorOfTheLastLoad();
        countsAndTimeAreZero();
        wholeContentByteByByte();
        CHECKS.end();
    }

    // ---- the buffer

    /** "The input buffer holds at most 500 bytes." */
    private static void atMost500Bytes() {
        ValveRoom x = new ValveRoom();
        Checks.type(x, "back 77;" + " ".repeat(472));
        CHECKS.same("append() behind 480 bytes", x.append(0x20202020, 0x20202020, 0x20202020, 0x20202020, 0x20202020), 500);
        CHECKS.inWrongState("append() behind 500 bytes", () -> x.append(0, 0, 0, 0, 0));
        CHECKS.inWrongState("append() behind 500 bytes again", () -> x.append(0, 0, 0, 0, 0));
        x.truncate(500);
        CHECKS.same("all 500 bytes are read", x.load(), 0);
        CHECKS.same("what they tell", x.property(7), 77);
        CHECKS.same("append() behind load()", x.append(0, 0, 0, 0, 0), 20);
        for (int length = 481; length < 500; length++) {
            ValveRoom y = new ValveRoom();
            Checks.type(y, " ".repeat(length));
            String told = "append() behind " + length + " bytes";
            CHECKS.inWrongState(told, () -> y.append(0x6261636b, 0x20313b20, 0, 0, 0));
            int longer = length + 1;
            CHECKS.outOfRange("one byte more of " + length, () -> y.truncate(longer));
            CHECKS.same("load() behind a refused append()", y.load(), -4);
            CHECKS.same("nothing of it was put there", y.errorPosition(), length);
        }
        ValveRoom z = new ValveRoom();
        for (int many = 20; many <= 500; many += 20) {
            CHECKS.same("append() up to " + many, z.append(0, 0, 0, 0, 0), many);
        }
    }

    /** "the four bytes of each parameter, most significant byte first" */
    private static void mostSignificantByteFirst() {
        for (int at = 0; at < 20; at++) {
            int[] five = {0x20202020, 0x20202020, 0x20202020, 0x20202020, 0x20202020};
            // The byte 255 is the sign bit and all others of its place.
            five[at / 4] |= 0xff << 24 - at % 4 * 8;
            ValveRoom x = new ValveRoom();
            x.append(five[0], five[1], five[2], five[3], five[4]);
            CHECKS.same("byte " + at, x.load(), -4);
            CHECKS.same("place of byte " + at, x.errorPosition(), at);
        }
        ValveRoom x = new ValveRoom();
        Checks.type(x, "outside 5;");
        CHECKS.same("behind what is there", x.append(0x6261636b, 0x20303b0a, 0x0a0a0a0a, 0x20202020, 0x2020203f), 30);
        CHECKS.same("load()", x.load(), -4);
        CHECKS.same("its last byte", x.errorPosition(), 29);
    }

    /** "the new length, 0 to the current length" */
    private static void zeroToTheCurrentLength() {
        int[] lengths = {0, 1, 19, 20, 480, 481, 499, 500};
        for (int length : lengths) {
            ValveRoom x = new ValveRoom();
            Checks.type(x, " ".repeat(length));
            x.truncate(length);
            CHECKS.outOfRange("one more than " + length, () -> x.truncate(length + 1));
            CHECKS.outOfRange("-1 of " + length, () -> x.truncate(-1));
            CHECKS.outOfRange("least of " + length, () -> x.truncate(Integer.MIN_VALUE));
            CHECKS.outOfRange("greatest of " + length, () -> x.truncate(Integer.MAX_VALUE));
            x.truncate(length);
            x.load();
            CHECKS.same("what is left of " + length, x.errorPosition(), length);
        }
        ValveRoom x = new ValveRoom();
        Checks.type(x, "back 17;");
        x.truncate(7);
        CHECKS.same("without its last byte", x.load(), -4);
        CHECKS.same("its end", x.errorPosition(), 7);
        Checks.type(x, "back 17;");
        x.truncate(6);
        Checks.type(x, ";");
        CHECKS.same("without two, and one", x.load(), 0);
        CHECKS.same("what it tells", x.property(7), 1);
        Checks.type(x, "back 17;");
        x.truncate(0);
        CHECKS.same("emptied", x.append(0, 0, 0, 0, 0), 20);
    }

    // ---- tokens

    /** "a text of one or more statements"; "the token cannot stand here (also the end of an empty text)" */
    private static void oneOrMoreStatements() {
        CHECKS.misread("", 1, 0);
        CHECKS.misread(" ", 1, 1);
        CHECKS.misread("\n", 1, 1);
        CHECKS.misread(";", 1, 0);
        CHECKS.misread(" ;", 1, 1);
        CHECKS.misread("back 1;;", 1, 7);
        CHECKS.misread(" ".repeat(499), 1, 499);
        CHECKS.misread("\n".repeat(500), 1, 500);
        CHECKS.same("one", Checks.load(new ValveRoom(), "back 1;"), 0);
        CHECKS.same("two", Checks.load(new ValveRoom(), "back 1;outside 1;"), 0);
    }

    /** "each statement ends with ';'" */
    private static void eachStatementEndsWithSemicolon() {
        String[] statements = {"outside 1", "outside -1", "window 1 hold 1", "back 1", "control 1 1 1", "exercise 1",
            "room b temp 1", "room b temp 1 power 1", "room b temp 1 loss 1", "room b temp 1 valve 1",
            "room b temp 1 battery 1", "program a 1:50", "program a 1:50,2:50", "plan 1 a go"};
        for (String statement : statements) {
            int end = A.length() + statement.length();
            CHECKS.misread(A + statement, 1, end);
            CHECKS.misread(A + statement + " \n ", 1, end + 3);
            CHECKS.misread(A + statement + " " + A, 1, end + 1);
            CHECKS.misread(A + statement + ":", 1, end);
            CHECKS.misread(A + statement + ";;", 1, end + 1);
            CHECKS.that(statement + ";", Checks.load(new ValveRoom(), A + statement + ";") > 0);
        }
    }

    private static boolean isLetter(int sign) {
        return sign >= 97 && sign <= 122;
    }

    private static boolean isDigit(int sign) {
        return sign >= 48 && sign <= 57;
    }

    private static boolean isBlank(int sign) {
        return sign == 32 || sign == 10;
    }

    /** "a word is a maximal run of lowercase letters a-z": every byte behind one. */
    private static void lettersOfAWord() {
        for (int sign = 0; sign < 256; sign++) {
            String text = "back" + (char) sign + "7;";
            if (isLetter(sign)) {
                CHECKS.misread(text, 1, 0);
            } else if (isDigit(sign) || isBlank(sign)) {
                CHECKS.same("the byte " + sign + " behind a word", Checks.load(new ValveRoom(), text), 0);
            } else {
                CHECKS.misread(text, 1, 4);
            }
            text = "room x" + (char) sign + "temp 7;";
            if (isBlank(sign)) {
                CHECKS.same("the byte " + sign + " behind a name", Checks.load(new ValveRoom(), text), 1);
            } else {
                // With a letter more it is the name xztemp, and what is missing stands behind it.
                CHECKS.misread(text, 1, isLetter(sign) ? 12 : 6);
            }
        }
    }

    /** "a number is a maximal run of decimal digits": every byte within one. */
    private static void digitsOfANumber() {
        for (int sign = 0; sign < 256; sign++) {
            String text = "back 1" + (char) sign + "2;";
            if (isDigit(sign)) {
                int told = 102 + 10 * (sign - 48);
                ValveRoom x = new ValveRoom();
                CHECKS.same("back " + told, Checks.load(x, text), told <= 150 ? 0 : -4);
                CHECKS.same("the error of " + told, x.errorCode(), told <= 150 ? 0 : 2);
                CHECKS.same("its position", x.errorPosition(), told <= 150 ? -1 : 5);
                CHECKS.same("the setback", x.property(7), told <= 150 ? told : 30);
            } else {
                CHECKS.misread(text, 1, isBlank(sign) || sign == ';' ? 7 : 6);
            }
        }
    }

    /** "each other byte except space (32) and newline (10) is a symbol"; "Spaces and newlines only separate tokens." */
    private static void separatorsOnlySeparate() {
        for (int sign = 0; sign < 256; sign++) {
            String ahead = (char) sign + "back 7;";
            String behind = "back 7;" + (char) sign;
            if (isBlank(sign)) {
                CHECKS.same("the byte " + sign + " at first", Checks.load(new ValveRoom(), ahead), 0);
                CHECKS.same("the byte " + sign + " at last", Checks.load(new ValveRoom(), behind), 0);
            } else {
                CHECKS.misread(ahead, 1, 0);
                CHECKS.misread(behind, 1, 7);
            }
        }
        CHECKS.same("none where none is needed", Checks.load(new ValveRoom(), "room a temp5power6loss7valve8battery9;"
                + "outside-7;window8hold9;program a1:50,2:60;plan3a go;"), 1);
        CHECKS.same("many", Checks.load(new ValveRoom(), "\n \n outside \n - \n 7 \n ; \n "), 0);
        // "each .. is a symbol of its own"
        CHECKS.misread("outside --7;", 1, 9);
        CHECKS.misread(A + "program a 1::50;", 1, A.length() + 12);
        CHECKS.misread(A + "program a 1:50,,2:50;", 1, A.length() + 15);
    }

    /** "a number .. of any length" */
    private static void numbersOfAnyLength() {
        ValveRoom x = new ValveRoom();
        CHECKS.same("of 494 digits", Checks.load(x, "back " + "0".repeat(491) + "149;"), 0);
        CHECKS.same("what it tells", x.property(7), 149);
        CHECKS.same("of zeros alone", Checks.load(x, "back " + "0".repeat(494) + ";"), 0);
        CHECKS.same("what they tell", x.property(7), 0);
        CHECKS.misread("back " + "9".repeat(494) + ";", 2, 5);
        CHECKS.misread("back " + "0".repeat(400) + "151;", 2, 5);
        CHECKS.misread("back 1" + "0".repeat(493) + ";", 2, 5);
        // They would be 7 if only so many bits or digits of them counted.
        String[] larger = {"263", "65543", "100007", "1000007", "2147483655", "4294967303", "10000000007",
            "18446744073709551623", "340282366920938463463374607431768211463"};
        for (String number : larger) {
            CHECKS.misread("back " + number + ";", 2, 5);
        }
    }

    // ---- ranges

    /** Each number of the statements, "0 to 400" and the like. */
    private static void rangesOfNumbers() {
        range("outside ", ";", 0, 400, x -> x.property(3));
        range("outside -", ";", 0, 300, x -> -x.property(3));
        range("window ", " hold 5;", 1, 99, x -> x.property(5));
        range("window 5 hold ", ";", 1, 48, x -> x.property(6));
        range("back ", ";", 0, 150, x -> x.property(7));
        range("control ", " 7 8;", 0, 50, x -> x.property(8));
        range("control 7 ", " 8;", 1, 50, x -> x.property(9));
        range("control 7 8 ", ";", 1, 100, x -> x.property(10));
        range("exercise ", ";", 0, 335, x -> x.property(11));
        range("room a temp ", ";", 0, 400, x -> x.room(0, 0));
        range("room a temp 5 power ", ";", 1, 50, x -> x.room(0, 3));
        range("room a temp 5 loss ", ";", 0, 50, x -> x.room(0, 4));
        range("room a temp 5 valve ", ";", 0, 100, x -> x.room(0, 1));
        range("room a temp 5 battery ", ";", 0, 9999, x -> x.room(0, 2));
        range(A + "program a ", ":77;", 0, 47, x -> x.entry(0, 0) / 1000);
        range(A + "program a 7:", ";", 50, 300, x -> x.entry(0, 0) % 1000);
        range(A + "program a 7:60,8:", ";", 50, 300, x -> x.entry(0, 1) % 1000);
        range(A + "plan ", " a go;", 1, 9999, x -> x.planned(0, 0));
        CHECKS.same("an entry behind another at 0", Checks.house(A + "program a 7:60,0:70;").entry(0, 0), 70);
        CHECKS.same("an entry behind another at 47", Checks.house(A + "program a 7:60,47:70;").entry(0, 1), 47070);
        CHECKS.misread(A + "program a 7:60,48:70;", 2, A.length() + 15);
    }

    private static void range(String ahead, String behind, int least, int most, Read read) {
        int[] right = {least, least + 1, most - 1, most};
        for (int number : right) {
            CHECKS.same(ahead + number + behind, read.of(Checks.house(ahead + number + behind)), number);
            CHECKS.same(ahead + "00" + number + behind, read.of(Checks.house(ahead + "00" + number + behind)), number);
        }
        if (least > 0) {
            CHECKS.misread(ahead + (least - 1) + behind, 2, ahead.length());
            CHECKS.misread(ahead + "0" + behind, 2, ahead.length());
        }
        CHECKS.misread(ahead + (most + 1) + behind, 2, ahead.length());
        CHECKS.misread(ahead + "0" + (most + 1) + behind, 2, ahead.length());
        CHECKS.misread(ahead + most + "0" + behind, 2, ahead.length());
        CHECKS.misread(ahead + "2147483648" + behind, 2, ahead.length());
        CHECKS.misread(ahead + (4294967296L + most) + behind, 2, ahead.length());
    }

    /** "outside [ - ] N", and no other number with a minus sign */
    private static void minusSignOnlyOutside() {
        CHECKS.same("outside -0", Checks.house("outside -0;").property(3), 0);
        CHECKS.same("outside - 300", Checks.house("outside - 300;").property(3), -300);
        CHECKS.misread("outside -301;", 2, 9);
        CHECKS.misread("outside -400;", 2, 9);
        CHECKS.misread("outside --1;", 1, 9);
        CHECKS.misread("outside -;", 1, 9);
        CHECKS.misread("outside -", 1, 9);
        CHECKS.misread("outside +1;", 1, 8);
        String[] aheads = {"window ", "window 5 hold ", "back ", "control ", "control 7 ", "control 7 8 ", "exercise ",
            "room a temp ", "room a temp 5 power ", "room a temp 5 loss ", "room a temp 5 valve ",
            "room a temp 5 battery ", A + "program a ", A + "program a 7:", A + "plan "};
        for (String ahead : aheads) {
            CHECKS.misread(ahead + "-1", 1, ahead.length());
            CHECKS.misread(ahead + ";", 1, ahead.length());
            CHECKS.misread(ahead + "a", 1, ahead.length());
            CHECKS.misread(ahead, 1, ahead.length());
        }
    }

    /** "50 without it", "8 and 3 without it" and the like */
    private static void withoutThem() {
        int[] due = {0, 0, 0, 50, 0, 8, 3, 30, 3, 5, 20, 100};
        ValveRoom x = Checks.house("outside 1;window 1 hold 1;back 1;control 1 1 1;exercise 1;" + A);
        String[] statements = {"outside 2;", "window 2 hold 2;", "back 2;", "control 2 2 2;", "exercise 2;"};
        int[] first = {3, 5, 7, 8, 11};
        int[] last = {3, 6, 7, 10, 11};
        for (int told = 0; told < statements.length; told++) {
            CHECKS.same("load() of " + statements[told], Checks.load(x, statements[told]), 0);
            for (int what = 0; what < due.length; what++) {
                boolean isTold = what >= first[told] && what <= last[told];
                CHECKS.same(statements[told] + " property(" + what + ")", x.property(what), isTold ? 2 : due[what]);
            }
        }
        int[] room = {5, 0, 1000, 10, 4, 0, 1, 0, -1, 0, 0};
        CHECKS.same("load() of a room", Checks.load(x, A), 1);
        for (int what = 0; what < room.length; what++) {
            CHECKS.same("room(0, " + what + ")", x.room(0, what), room[what]);
        }
    }

    // ---- words

    /** "NAME is a word of 1 to 6 letters" */
    private static void nameOfOneToSixLetters() {
        String[] names = {"a", "z", "az", "azaza", "abcdef", "zzzzzz"};
        for (String name : names) {
            ValveRoom x = Checks.house("room " + name + " temp 5;program " + name + " 1:50;plan 1 " + name + " go;");
            CHECKS.same("the program of " + name, x.entry(0, 0), 1050);
            CHECKS.same("the plan in " + name, x.planned(0, 1), 0);
            Checks.type(x, name);
            CHECKS.same("find() of " + name, x.find(), 0);
        }
        String[] longer = {"abcdefg", "zzzzzzz", "abcdefghijklmnopqrstuvwxyz"};
        for (String name : longer) {
            CHECKS.misread("room " + name + " temp 5;", 1, 5);
            CHECKS.misread("room abcdef temp 5;program " + name + " 1:50;", 1, 27);
            CHECKS.misread("room abcdef temp 5;plan 1 " + name + " go;", 1, 26);
        }
        CHECKS.misread("room temp 5;", 1, 5);
        CHECKS.misread(A + "program 1:50;", 1, A.length() + 8);
        CHECKS.misread(A + "plan 1 go;", 1, A.length() + 7);
        CHECKS.misread("room a1 temp 5;", 1, 6);
        CHECKS.misread("room 1a temp 5;", 1, 5);
        CHECKS.misread("room a-b temp 5;", 1, 6);
        CHECKS.misread("room A temp 5;", 1, 5);
    }

    /** "that is not a keyword" */
    private static void nameThatIsNoKeyword() {
        for (String word : KEYWORDS) {
            CHECKS.misread("room " + word + " temp 5;", 1, 5);
            CHECKS.misread(A + "program " + word + " 1:50;", 1, A.length() + 8);
            CHECKS.misread(A + "plan 1 " + word + " go;", 1, A.length() + 7);
            mayBeName(word.substring(0, word.length() - 1));
            mayBeName(word.substring(1));
            mayBeName(word + "s");
            mayBeName("a" + word);
        }
    }

    private static void mayBeName(String word) {
        String text = "room " + word + " temp 5;";
        if (word.length() <= 6) {
            CHECKS.same(text, Checks.load(new ValveRoom(), text), 1);
        } else {
            CHECKS.misread(text, 1, 5);
        }
    }

    /** "( open | close | come | go )" */
    private static void kindsOfPlans() {
        String[] kinds = {"open", "close", "come", "go"};
        int[] due = {ValveRoom.OPEN, ValveRoom.CLOSE, ValveRoom.COME, ValveRoom.GO};
        for (int i = 0; i < kinds.length; i++) {
            CHECKS.same(kinds[i], Checks.house(A + "plan 1 a " + kinds[i] + ";").planned(0, 2), due[i]);
            CHECKS.misread(A + "plan 1 a " + kinds[i] + "s;", 1, A.length() + 9);
        }
        for (int i = 0; i < KEYWORDS.length - 4; i++) {
            CHECKS.misread(A + "plan 1 a " + KEYWORDS[i] + ";", 1, A.length() + 9);
        }
        CHECKS.misread(A + "plan 1 a a;", 1, A.length() + 9);
        CHECKS.misread(A + "plan 1 a 0;", 1, A.length() + 9);
        CHECKS.misread(A + "plan 1 a ;", 1, A.length() + 9);
        CHECKS.misread(A + "plan 1 a open close;", 1, A.length() + 14);
    }

    /** "The statements are": no other word begins one. */
    private static void wordsOfStatements() {
        String begin = " outside window back control exercise room program plan ";
        for (String word : KEYWORDS) {
            boolean begins = begin.contains(" " + word + " ");
            CHECKS.misread(word + " ?", 1, begins ? word.length() + 1 : 0);
            CHECKS.misread(word, 1, begins ? word.length() : 0);
            CHECKS.misread(word + "s 1;", 1, 0);
            CHECKS.misread(word.substring(0, word.length() - 1) + " 1;", 1, 0);
        }
        CHECKS.misread("a;", 1, 0);
        CHECKS.misread("1;", 1, 0);
    }

    // ---- how often

    /** "Each statement but room, program and plan comes at most once." */
    private static void onceAtMost() {
        String[] statements = {"outside 1;", "window 1 hold 1;", "back 1;", "control 1 1 1;", "exercise 1;"};
        StringBuilder all = new StringBuilder();
        for (String statement : statements) {
            all.append(statement);
        }
        CHECKS.same("each once", Checks.load(new ValveRoom(), all.toString()), 0);
        for (String statement : statements) {
            CHECKS.misread(statement + statement, 3, statement.length());
            CHECKS.misread(statement + A + statement, 3, statement.length() + A.length());
            CHECKS.misread(all + statement, 3, all.length());
            CHECKS.misread(statement + statement.substring(0, statement.indexOf(' ')), 3, statement.length());
            ValveRoom x = new ValveRoom();
            Checks.load(x, statement + "?");
            CHECKS.same("once in the next text", Checks.load(x, statement), 0);
            CHECKS.same("once in the next but one", Checks.load(x, statement), 0);
        }
        CHECKS.same("others more often", Checks.load(new ValveRoom(), A + "room b temp 1;plan 1 a go;plan 1 a go;"
                + "program a 1:50;program b 1:50;"), 2);
    }

    private static String rooms(int many) {
        StringBuilder text = new StringBuilder();
        for (int i = 0; i < many; i++) {
            text.append("room ").append((char) ('a' + i)).append(" temp ").append(i).append(';');
        }
        return text.toString();
    }

    /** "At most 6"; "Rooms are numbered from 0"; "the word room a 7th time" */
    private static void sixRooms() {
        for (int many = 1; many <= 6; many++) {
            ValveRoom x = new ValveRoom();
            CHECKS.same("rooms", Checks.load(x, rooms(many)), many);
            CHECKS.same("property(0)", x.property(0), many);
            for (int room = 0; room < many; room++) {
                CHECKS.same("room " + room, x.room(room, 0), room);
            }
            int behind = many;
            CHECKS.outOfIndex("room " + many + " of " + many, () -> x.room(behind, 0));
        }
        int six = rooms(6).length();
        CHECKS.misread(rooms(7), 5, six);
        CHECKS.misread(rooms(6) + "room", 5, six);
        CHECKS.misread(rooms(6) + "room a temp 1;", 5, six);
        CHECKS.misread(rooms(6) + "back 1;room ?", 5, six + 7);
        CHECKS.misread(rooms(6) + "rooms", 1, six);
        ValveRoom x = new ValveRoom();
        Checks.load(x, rooms(6));
        CHECKS.same("six more in the next text", Checks.load(x, rooms(6)), 6);
        Checks.load(x, rooms(7));
        CHECKS.same("six behind an error", Checks.load(x, rooms(6)), 6);
    }

    private static String plans(int many) {
        return A + "plan 7 a go;".repeat(many);
    }

    /** "At most 20"; "plan a 21st time" */
    private static void twentyPlans() {
        int[] right = {0, 1, 19, 20};
        for (int many : right) {
            CHECKS.same(many + " plans", Checks.house(plans(many)).property(4), many);
        }
        int twenty = plans(20).length();
        CHECKS.misread(plans(21), 5, twenty);
        CHECKS.misread(plans(20) + "plan", 5, twenty);
        CHECKS.misread(plans(20) + "plan 0 b ?", 5, twenty);
        CHECKS.misread(plans(20) + "plans", 1, twenty);
        ValveRoom x = new ValveRoom();
        Checks.load(x, plans(21));
        CHECKS.same("twenty behind an error", Checks.load(x, plans(20)), 1);
        CHECKS.same("twenty more in the next text", Checks.load(x, plans(20)), 1);
        CHECKS.same("plans to come", x.property(4), 20);
        CHECKS.inWrongState("a 21st", () -> x.plan(1, 0, 0));
    }

    /** A text of 500 bytes may have up to 500 tokens. */
    private static void asManyTokensAsBytes() {
        CHECKS.misread(";".repeat(500), 1, 0);
        CHECKS.misread("a1".repeat(250), 1, 0);
        CHECKS.misread("back 1;" + "?".repeat(493), 1, 7);
        CHECKS.misread("back1;" + "plan1plan".repeat(54) + "plan1777", 1, 11);
        CHECKS.misread("room a temp 1;" + " ;".repeat(243), 1, 15);
        ValveRoom x = new ValveRoom();
        Checks.load(x, "?".repeat(500));
        CHECKS.same("few tokens behind many", Checks.load(x, "back 1;"), 0);
        CHECKS.same("what they tell", x.property(7), 1);
        Checks.load(x, "back 2;" + ";".repeat(493));
        CHECKS.same("one byte behind 500", Checks.load(x, "7"), -4);
        CHECKS.same("its position", x.errorPosition(), 0);
        Checks.load(x, "back 2;back 3;");
        CHECKS.same("half a text behind a whole one", Checks.load(x, "back 4"), -4);
        CHECKS.same("its end", x.errorPosition(), 6);
    }

    /** "{ , N : N }": a program of one entry and one of each tick of the day */
    private static void fullProgram() {
        StringBuilder text = new StringBuilder(A + "program a 47:50");
        for (int tick = 46; tick >= 0; tick--) {
            text.append(',').append(tick).append(':').append(97 - tick);
        }
        ValveRoom x = Checks.house(text + ";");
        for (int tick = 0; tick < 48; tick++) {
            CHECKS.same("entry(0, " + tick + ")", x.entry(0, tick), 1000 * tick + 97 - tick);
        }
        CHECKS.notThere("entry(0, 48)", () -> x.entry(0, 48));
        int[] again = {0, 1, 46, 47};
        for (int tick : again) {
            CHECKS.misread(text + "," + tick + ":50;", 3, text.length() + 1);
        }
        CHECKS.misread(text + ",48:50;", 2, text.length() + 1);
        CHECKS.notThere("a program of one", () -> Checks.house(A + "program a 5:50;").entry(0, 1));
        CHECKS.misread(A + "program a ;", 1, A.length() + 10);
    }

    /** "the NAME of a program, if this room has one; a tick of the day that this program has already" */
    private static void programOfOneRoom() {
        String b = "room b temp 5;";
        int behind = (A + b).length();
        CHECKS.misread(A + b + "program a 1:50;program a 2:50;", 3, behind + 23);
        CHECKS.misread(A + b + "program a 1:50;program b 1:50;program a 2:50;", 3, behind + 38);
        CHECKS.misread(A + b + "program a 1:50,1:50;", 3, behind + 15);
        CHECKS.misread(A + b + "program a 1:50,2:50,1:50;", 3, behind + 20);
        CHECKS.misread(A + b + "program a 0:50,0", 3, behind + 15);
        CHECKS.misread(A + b + "program a 47:50,0047?", 3, behind + 16);
        ValveRoom x = Checks.house(A + b + "program a 1:50;program b 1:60;");
        CHECKS.same("the same tick in another program", x.entry(1, 0), 1060);
        CHECKS.same("a program anew in the next text", Checks.load(x, A + "program a 1:70;"), 1);
        CHECKS.same("what it tells", x.entry(0, 0), 1070);
        CHECKS.notThere("nothing of the former one", () -> x.entry(0, 1));
    }

    /** "the NAME of another room for a new one" */
    private static void nameOfAnotherRoom() {
        for (int other = 0; other < 5; other++) {
            String name = Character.toString((char) ('a' + other));
            CHECKS.misread(rooms(5) + "room " + name + " temp 1;", 3, rooms(5).length() + 5);
            CHECKS.misread(rooms(5) + "room " + name, 3, rooms(5).length() + 5);
        }
        CHECKS.same("names that differ in one letter", Checks.load(new ValveRoom(), "room abcdef temp 1;"
                + "room abcdeg temp 1;room abcde temp 1;room bbcdef temp 1;room ab temp 1;room a temp 1;"), 6);
        ValveRoom x = new ValveRoom();
        Checks.load(x, A);
        CHECKS.same("a name of the text before", Checks.load(x, A), 1);
        Checks.load(x, A + "?");
        CHECKS.same("a name of a text with an error", Checks.load(x, A), 1);
    }

    /** "a NAME that is not that of a room told ahead" */
    private static void toldAhead() {
        CHECKS.misread("program a 1:50;" + A, 4, 8);
        CHECKS.misread("plan 1 a go;" + A, 4, 7);
        CHECKS.misread(A + "program b 1:50;room b temp 5;", 4, A.length() + 8);
        CHECKS.misread(A + "plan 1 b go;room b temp 5;", 4, A.length() + 7);
        CHECKS.same("told just ahead", Checks.load(new ValveRoom(), A + "program a 1:50;plan 1 a go;"), 1);
        ValveRoom x = Checks.house(A);
        CHECKS.same("told by the text before", Checks.load(x, "plan 1 a go;"), -4);
        CHECKS.same("its code", x.errorCode(), 4);
        Checks.load(x, "room b temp 5;?");
        CHECKS.same("told by a text with an error", Checks.load(x, A + "plan 1 b go;"), -4);
        CHECKS.same("its code", x.errorCode(), 4);
        ValveRoom y = Checks.house(rooms(6) + "program f 1:50;plan 1 f go;program a 2:60;plan 2 a go;");
        CHECKS.same("of the last room", y.entry(5, 0), 1050);
        CHECKS.same("in the last room", y.planned(0, 1), 5);
        CHECKS.same("of the first room", y.entry(0, 0), 2060);
        CHECKS.same("in the first room", y.planned(1, 1), 0);
    }

    /** "[ ] that it may be left out", but not told twice or in another order */
    private static void leftOutInTheirOrder() {
        String[] parts = {"power 1 ", "loss 1 ", "valve 1 ", "battery 1 "};
        for (int i = 0; i < parts.length; i++) {
            for (int k = 0; k < parts.length; k++) {
                String text = "room a temp 5 " + parts[i] + parts[k] + ";";
                if (i < k) {
                    CHECKS.same(text, Checks.load(new ValveRoom(), text), 1);
                } else {
                    CHECKS.misread(text, 1, 14 + parts[i].length());
                }
            }
            CHECKS.misread("room a " + parts[i] + "temp 5;", 1, 7);
        }
        CHECKS.misread("room a temp 5 temp 5;", 1, 14);
        CHECKS.misread("window 1;", 1, 8);
        CHECKS.misread("window hold 1;", 1, 7);
        CHECKS.misread("window 1 hold;", 1, 13);
        CHECKS.misread("control 1 1;", 1, 11);
        CHECKS.misread("control 1 1 1 1;", 1, 14);
    }

    // ---- errors

    /** "stops at the first token that has an error" */
    private static void firstErrorCounts() {
        CHECKS.misread("back 151;back 1;back 1;", 2, 5);
        CHECKS.misread("back 1;back 151;", 3, 7);
        CHECKS.misread("window 100 hold 100;", 2, 7);
        CHECKS.misread("window 99 hold 49;", 2, 15);
        CHECKS.misread("program b 48:301;", 4, 8);
        CHECKS.misread(A + "program a 48:301;", 2, A.length() + 10);
        CHECKS.misread(A + "program a 47:301;", 2, A.length() + 13);
        CHECKS.misread(A + "plan 0 b ?;", 2, A.length() + 5);
        CHECKS.misread(A + "plan 1 b ?;", 4, A.length() + 7);
        CHECKS.misread(A + "plan 1 a ?;", 1, A.length() + 9);
        CHECKS.misread(A + "room a ?", 3, A.length() + 5);
    }

    /** "if that token has several errors, the smallest code counts" */
    private static void smallestCode() {
        // 1 goes ahead of 2: a number far out of range where no number may stand.
        CHECKS.misread("99999999;", 1, 0);
        CHECKS.misread("back 1 99999999;", 1, 7);
        // 1 goes ahead of 3: a word for the second time, where it may not stand.
        CHECKS.misread("back 1 back 2;", 1, 7);
        CHECKS.misread("back 1;exercise back", 1, 16);
        CHECKS.misread("room a temp 1 a;", 1, 14);
        // 1 goes ahead of 4: a word that is no name of a room told ahead, and no name.
        CHECKS.misread("program temp 1:50;", 1, 8);
        CHECKS.misread("plan 1 abcdefg go;", 1, 7);
        // 1 goes ahead of 5: the 7th room and the 21st plan, where they may not stand.
        String six = rooms(6).substring(0, rooms(6).length() - 1);
        CHECKS.misread(six + " room g temp 1;", 1, six.length() + 1);
        CHECKS.misread(rooms(6) + "plan 1 room", 1, rooms(6).length() + 7);
        String twenty = plans(20).substring(0, plans(20).length() - 1);
        CHECKS.misread(twenty + " plan 1 a go;", 1, twenty.length() + 1);
        CHECKS.misread(plans(20) + "program plan", 1, plans(20).length() + 8);
    }

    /** "for the end of the text it is the text's length" */
    private static void endOfTheText() {
        String[] tokens = {"room", "a", "temp", "5", "battery", "6", ";", "window", "1", "hold", "2", ";", "program", "a",
            "1", ":", "50", ",", "2", ":", "60", ";", "plan", "1", "a", "go", ";", "control", "1", "1", "1", ";",
            "outside", "-", "7", ";"};
        StringBuilder text = new StringBuilder();
        for (String token : tokens) {
            text.append(token);
            if (token.equals(";")) {
                CHECKS.same("all of " + text, Checks.load(new ValveRoom(), text.toString()), 1);
            } else {
                CHECKS.misread(text.toString(), 1, text.length());
                CHECKS.misread(text + " \n ", 1, text.length() + 3);
            }
            text.append(' ');
        }
        CHECKS.misread("room a temp 5" + " ".repeat(487), 1, 500);
        // The last token ends with the 500th byte: a keyword, a name, a number, a symbol.
        CHECKS.misread(" ".repeat(493) + "outside", 1, 500);
        CHECKS.misread(A + " ".repeat(500 - A.length() - 8) + "plan 1 a", 1, 500);
        CHECKS.misread(A + " ".repeat(500 - A.length() - 11) + "plan 1 a go", 1, 500);
        CHECKS.misread(A + " ".repeat(500 - A.length() - 8) + "plan 1 b", 4, 499);
        CHECKS.misread(" ".repeat(494) + "back 1", 1, 500);
        CHECKS.misread(" ".repeat(493) + "back 1?", 1, 499);
        CHECKS.same("a semicolon", Checks.load(new ValveRoom(), " ".repeat(493) + "back 1;"), 0);
    }

    /** "the code of the parse error of the last load(); 0 if it had none or there was no load()", and its position */
    private static void errorOfTheLastLoad() {
        ValveRoom x = new ValveRoom();
        errorIs(x, "no load()", 0, -1);
        Checks.load(x, "");
        errorIs(x, "an error at 0", 1, 0);
        Checks.load(x, "back 1;");
        errorIs(x, "none behind one", 0, -1);
        Checks.load(x, "back 999;");
        errorIs(x, "one behind none", 2, 5);
        Checks.load(x, "back 1;back");
        errorIs(x, "one behind one", 3, 7);
        String[] right = {"outside 1;", "outside -1;", "window 1 hold 1;", "back 1;", "control 1 1 1;", "exercise 1;", A,
            A + "program a 1:50,2:50;", A + "plan 1 a go;", A + "room b temp 1 power 1 loss 1 valve 1 battery 1;"};
        for (String text : right) {
            ValveRoom y = new ValveRoom();
            Checks.load(y, "back 1;back");
            errorIs(y, "an error ahead of " + text, 3, 7);
            Checks.load(y, text);
            errorIs(y, "none in " + text, 0, -1);
        }
        Checks.type(x, "a");
        x.find();
        errorIs(x, "find() leaves it", 3, 7);
        x.undo();
        errorIs(x, "undo() leaves it", 3, 7);
        x.keep(0);
        x.restore(0);
        errorIs(x, "restore() leaves it", 3, 7);
        x.tick(1);
        errorIs(x, "tick() leaves it", 3, 7);
    }

    private static void errorIs(ValveRoom x, String what, int code, int position) {
        CHECKS.same(what + ": errorCode()", x.errorCode(), code);
        CHECKS.same(what + ": errorPosition()", x.errorPosition(), position);
    }

    /** "On success everything .. is that of the text; the time and all counts are 0." */
    private static void countsAndTimeAreZero() {
        String busy = "outside 0;window 1 hold 48;exercise 1;control 0 50 100;";
        StringBuilder rooms = new StringBuilder();
        for (char name = 'a'; name <= 'f'; name++) {
            rooms.append("room ").append(name).append(" temp 300 loss 9 battery 7;");
        }
        ValveRoom x = Checks.house(busy + rooms + "plan 1 a open;plan 2 f go;plan 99 c go;");
        for (int room = 0; room < 6; room++) {
            x.override(room, 50, 500);
            x.setProgram(room, room, 60);
        }
        x.tick(9);
        CHECKS.same("load() of the same rooms anew", Checks.load(x, rooms(6)), 6);
        int[] due = {0, 0, 1000, 10, 4, 0, 1, 0, -1, 0, 0};
        for (int room = 0; room < 6; room++) {
            CHECKS.same("temperature of " + room, x.room(room, 0), room);
            for (int what = 1; what < due.length; what++) {
                CHECKS.same("room(" + room + ", " + what + ")", x.room(room, what), due[what]);
            }
            for (int what = 0; what < 6; what++) {
                CHECKS.same("count(" + room + ", " + what + ")", x.count(room, what), 0);
            }
            CHECKS.same("no program in " + room, x.programmed(room, 47), 200);
        }
        CHECKS.same("the time", x.property(1), 0);
        CHECKS.same("no plans", x.property(4), 0);
    }

    // ---- find

    /** "the room whose name is the whole content of the input buffer, byte by byte" */
    private static void wholeContentByteByByte() {
        String names = "room b temp 1;room bc temp 1;room bcdefg temp 1;room z temp 1;";
        found(names, "", -1);
        found(names, "b", 0);
        found(names, "bc", 1);
        found(names, "bcd", -1);
        found(names, "bcdef", -1);
        found(names, "bcdefg", 2);
        found(names, "bcdefgh", -1);
        found(names, "z", 3);
        for (int sign = 0; sign < 256; sign++) {
            found(names, Character.toString((char) sign), sign == 'b' ? 0 : sign == 'z' ? 3 : -1);
            found(names, "b" + (char) sign, sign == 'c' ? 1 : -1);
        }
        found(names, "b" + " ".repeat(499), -1);
        found(names, "bcdefg".repeat(83) + "bc", -1);
        found("back 1;", "b", -1);
        ValveRoom x = Checks.house(rooms(6));
        for (int room = 0; room < 6; room++) {
            Checks.type(x, Character.toString((char) ('a' + room)));
            CHECKS.same("find() of room " + room, x.find(), room);
        }
        Checks.load(x, "room f temp 1;");
        Checks.type(x, "a");
        CHECKS.same("find() of a room that was", x.find(), -1);
        Checks.type(x, "f");
        CHECKS.same("find() of the only one", x.find(), 0);
        CHECKS.same("find() of nothing", x.find(), -1);
    }

    private static void found(String text, String name, int due) {
        ValveRoom x = Checks.house(text);
        Checks.type(x, name);
        CHECKS.same("find() of \"" + name + "\"", x.find(), due);
        CHECKS.outOfRange("the buffer is empty behind it", () -> x.truncate(1));
        CHECKS.same("rooms behind it", x.undoCount(), 1);
    }
}
