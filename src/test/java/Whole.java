import java.util.ArrayList;
import java.util.List;
import java.util.NoSuchElementException;

/**
 * All that can be seen of an object, part by part. Each part is read from an object of its own that the same calls
 * have made, so that reading one part cannot spoil another and no object is used for more than 512 calls.
 */
final class Whole {
    interface Maker {
        ValveRoom make();
    }

    interface Call {
        void on(ValveRoom x);
    }

    static final int OUTPUT = 0;
    static final int INPUT = 1;
    static final int ERROR = 2;
    static final int SLOTS = 3;
    /** The state now and behind each undo(), as far as there is one. */
    static final int STATES = 4;
    static final String[] PARTS = {"the output", "the input", "the parse error", "the slots", "what is and was"};

    private static final int MOST_UNDONE = 6;

    private final String[] parts = new String[PARTS.length];

    /** What is to be seen of such an object behind this call, which may throw. */
    Whole(Maker maker, Call call) {
        parts[OUTPUT] = output(behind(maker, call));
        parts[INPUT] = input(behind(maker, call));
        parts[ERROR] = error(behind(maker, call));
        parts[SLOTS] = slot(behind(maker, call), 0) + slot(behind(maker, call), 1);
        StringBuilder states = new StringBuilder();
        for (int back = 0; back <= MOST_UNDONE + 1; back++) {
            states.append(stateBefore(behind(maker, call), back)).append('\n');
        }
        parts[STATES] = states.toString();
    }

    /** The parts in which the two differ. */
    List<String> unlike(Whole other) {
        List<String> unlike = new ArrayList<>();
        for (int i = 0; i < parts.length; i++) {
            if (!parts[i].equals(other.parts[i])) {
                unlike.add(PARTS[i]);
            }
        }
        return unlike;
    }

    private static ValveRoom behind(Maker maker, Call call) {
        ValveRoom x = maker.make();
        try {
            call.on(x);
        } catch (RuntimeException refused) {
            // Whether it has to throw, and what, is looked at elsewhere.
            return x;
        }
        return x;
    }

    static String output(ValveRoom x) {
        StringBuilder text = new StringBuilder();
        for (int i = 0; i < 450; i++) {
            try {
                text.append((char) x.outputByte(i));
            } catch (NoSuchElementException end) {
                return text.toString();
            }
        }
        return text.toString();
    }

    /** What the input buffer holds shows in its length and in what is loaded from it. */
    private static String input(ValveRoom x) {
        int length = length(x);
        int loaded = x.load();
        return length + " " + loaded + " " + error(x) + " " + (loaded < 0 ? "" : state(x));
    }

    private static int length(ValveRoom x) {
        try {
            int length = x.append(0, 0, 0, 0, 0) - 20;
            x.truncate(length);
            return length;
        } catch (IllegalStateException nearlyFull) {
            int length = 500;
            while (!truncates(x, length)) {
                length--;
            }
            return length;
        }
    }

    private static boolean truncates(ValveRoom x, int length) {
        try {
            x.truncate(length);
            return true;
        } catch (IllegalArgumentException longer) {
            return false;
        }
    }

    private static String error(ValveRoom x) {
        return x.errorCode() + " at " + x.errorPosition();
    }

    private static String slot(ValveRoom x, int slot) {
        try {
            return x.restore(slot) + " " + state(x) + "\n";
        } catch (IllegalStateException nothing) {
            return "nothing is kept\n";
        }
    }

    private static String stateBefore(ValveRoom x, int back) {
        for (int i = 0; i < back; i++) {
            try {
                x.undo();
            } catch (IllegalStateException first) {
                return "nothing is ahead";
            }
        }
        return x.undoCount() + " " + state(x);
    }

    /** All of a house as it is now. */
    static String state(ValveRoom x) {
        StringBuilder text = new StringBuilder();
        for (int what = 0; what < 12; what++) {
            text.append(x.property(what)).append(' ');
        }
        for (int room = 0; room < x.property(0); room++) {
            text.append('\n');
            for (int what = 0; what < 11; what++) {
                text.append(x.room(room, what)).append(' ');
            }
            for (int what = 0; what < 6; what++) {
                text.append(x.count(room, what)).append(' ');
            }
            text.append(x.reckoned(room)).append(' ').append(x.target(room)).append(' ').append(entries(x, room));
        }
        text.append('\n');
        for (int plan = 0; plan < x.property(4); plan++) {
            for (int what = 0; what < 3; what++) {
                text.append(x.planned(plan, what)).append(' ');
            }
        }
        x.writeRooms();
        return text.append(output(x)).toString();
    }

    private static String entries(ValveRoom x, int room) {
        StringBuilder text = new StringBuilder();
        for (int i = 0; i < 49; i++) {
            try {
                text.append(x.entry(room, i)).append(' ');
            } catch (NoSuchElementException end) {
                return text.toString();
            }
        }
        return text.toString();
    }
}
