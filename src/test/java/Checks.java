/** What the tests share: counting and telling what is wrong, and texts for load(). */
final class Checks {
    interface Call {
        void run();
    }

    private static final String NEW_HOUSE = Whole.state(new ValveRoom());

    private int made;
    private int wrong;

    void that(String what, boolean holds) {
        made++;
        if (!holds) {
            wrong++;
            System.out.println("wrong: " + what);
        }
    }

    void same(String what, long got, long due) {
        that(what + " answered " + got + ", due is " + due, got == due);
    }

    void same(String what, double got, double due) {
        that(what + " answered " + got + ", due is " + due, got == due);
    }

    void same(String what, String got, String due) {
        that(what + " answered \"" + got + "\", due is \"" + due + "\"", got.equals(due));
    }

    /** The call has to throw just this kind of exception. */
    void refused(String what, Class<? extends RuntimeException> due, Call call) {
        String got = "nothing";
        try {
            call.run();
        } catch (RuntimeException thrown) {
            got = thrown.getClass().getName();
        }
        that(what + " threw " + got + ", due is " + due.getName(), got.equals(due.getName()));
    }

    void outOfIndex(String what, Call call) {
        refused(what, IndexOutOfBoundsException.class, call);
    }

    void outOfRange(String what, Call call) {
        refused(what, IllegalArgumentException.class, call);
    }

    void inWrongState(String what, Call call) {
        refused(what, IllegalStateException.class, call);
    }

    void notThere(String what, Call call) {
        refused(what, java.util.NoSuchElementException.class, call);
    }

    /** load() of this text by a new object has to tell this error, and must not change the house. */
    void misread(String text, int code, int position) {
        ValveRoom x = new ValveRoom();
        String shown = text.length() > 60 ? text.substring(text.length() - 60) : text;
        same("load() of " + shown, load(x, text), -4);
        same("errorCode() of " + shown, x.errorCode(), code);
        same("errorPosition() of " + shown, x.errorPosition(), position);
        same("undoCount() behind " + shown, x.undoCount(), 0);
        same("the house behind " + shown, Whole.state(x), NEW_HOUSE);
    }

    /** Prints how it went, and ends with exit code 1 if anything was wrong. */
    void end() {
        System.out.println(made + " checks, " + wrong + " wrong");
        if (wrong > 0 || made == 0) {
            System.exit(1);
        }
    }

    /** Puts a text behind what is in the input buffer. */
    static void type(ValveRoom x, String text) {
        int length = text.length();
        int padded = (length + 19) / 20 * 20;
        int end = 0;
        for (int from = 0; from < padded; from += 20) {
            end = x.append(four(text, from), four(text, from + 4), four(text, from + 8), four(text, from + 12),
                    four(text, from + 16));
        }
        if (padded > length) {
            x.truncate(end - (padded - length));
        }
    }

    private static int four(String text, int from) {
        int bytes = 0;
        for (int i = from; i < from + 4; i++) {
            bytes = bytes << 8 | (i < text.length() ? text.charAt(i) & 255 : ' ');
        }
        return bytes;
    }

    static int load(ValveRoom x, String text) {
        type(x, text);
        return x.load();
    }

    /** A new house with this text, which has to be right. */
    static ValveRoom house(String text) {
        ValveRoom x = new ValveRoom();
        if (load(x, text) < 0 || x.errorCode() != 0 || x.errorPosition() != -1) {
            throw new AssertionError("error " + x.errorCode() + " at " + x.errorPosition() + " in " + text);
        }
        return x;
    }

    /** So many ticks pass, by as few calls as may be. */
    static void pass(ValveRoom x, int ticks) {
        for (int left = ticks; left > 0; left -= 200) {
            x.tick(Math.min(left, 200));
        }
    }

    /** A text of the rooms a to f, which no valve warms and nothing cools, and that are as warm as they have to be. */
    static String sixRooms(String more) {
        StringBuilder text = new StringBuilder();
        for (char name = 'a'; name <= 'f'; name++) {
            text.append("room ").append(name).append(" temp 200 power 1 loss 0 ").append(more).append(';');
        }
        return text.toString();
    }

    /** All that can be asked about a house as it is, but for the two buffers and the slots. */
    static String all(ValveRoom x) {
        StringBuilder all = new StringBuilder();
        for (int i = 0; i < 12; i++) {
            all.append(x.property(i)).append(' ');
        }
        for (int room = 0; room < x.property(0); room++) {
            for (int i = 0; i < 11; i++) {
                all.append(x.room(room, i)).append(' ');
            }
            for (int i = 0; i < 6; i++) {
                all.append(x.count(room, i)).append(' ');
            }
            for (int tick = 0; tick < 48; tick++) {
                all.append(x.programmed(room, tick)).append(' ');
            }
            all.append(x.reckoned(room)).append(' ').append(x.target(room)).append('\n');
        }
        for (int plan = 0; plan < x.property(4); plan++) {
            for (int i = 0; i < 3; i++) {
                all.append(x.planned(plan, i)).append(' ');
            }
        }
        return all.append(x.errorCode()).append(' ').append(x.errorPosition()).toString();
    }

    /** The output buffer, which has to be so long as was told. */
    static String output(ValveRoom x, int length) {
        StringBuilder text = new StringBuilder();
        for (int i = 0; i < length; i++) {
            text.append((char) x.outputByte(i));
        }
        return text.toString();
    }
}
