import java.lang.reflect.Constructor;
import java.lang.reflect.Executable;
import java.lang.reflect.Field;
import java.lang.reflect.Method;
import java.lang.reflect.Modifier;
import java.util.ArrayList;
import java.util.List;
import java.util.TreeSet;

/** The class has the document's face and nothing beside it. */
public final class FaceTest {
    private static final String STATE = "IllegalStateException";
    private static final String ARGUMENT = "IllegalArgumentException";
    private static final String INDEX = "IndexOutOfBoundsException";
    private static final String ELEMENT = "NoSuchElementException";

    private static final String[] FACE = {
        "ValveRoom()",
        "int append(int,int,int,int,int) " + STATE,
        "void truncate(int) " + ARGUMENT,
        "int load()",
        "int errorCode()",
        "int errorPosition()",
        "int find()",
        "int property(int) " + ARGUMENT,
        "int room(int,int) " + INDEX + " " + ARGUMENT,
        "int count(int,int) " + INDEX + " " + ARGUMENT,
        "int target(int) " + INDEX,
        "int programmed(int,int) " + INDEX + " " + ARGUMENT,
        "int entry(int,int) " + INDEX + " " + ELEMENT,
        "int wanted(int) " + INDEX,
        "int why(int) " + INDEX,
        "int planned(int,int) " + INDEX + " " + ARGUMENT,
        "int tempIn(int,int) " + INDEX + " " + ARGUMENT,
        "int valveIn(int,int) " + INDEX + " " + ARGUMENT,
        "int warmIn(int) " + INDEX,
        "int emptyIn(int) " + INDEX,
        "int exerciseIn(int) " + INDEX,
        "int lack(int,int) " + INDEX + " " + ARGUMENT,
        "int heatIn(int) " + ARGUMENT,
        "int bestGain(int) " + INDEX,
        "int tempIf(int,int,int) " + INDEX + " " + ARGUMENT,
        "int coldBy(int,int) " + INDEX + " " + ARGUMENT,
        "int coldest()",
        "int farthest()",
        "int weakest()",
        "int sum(int) " + ARGUMENT,
        "double meanTemp()",
        "float warmth(int) " + INDEX,
        "int reckoned(int) " + INDEX,
        "int tick(int) " + ARGUMENT,
        "int setProgram(int,int,int) " + INDEX + " " + ARGUMENT,
        "int clearProgram(int,int) " + INDEX + " " + ARGUMENT + " " + ELEMENT,
        "int override(int,int,int) " + INDEX + " " + ARGUMENT,
        "boolean setWindow(int,boolean) " + INDEX,
        "int setPresent(int,boolean) " + INDEX,
        "int plan(int,int,int) " + INDEX + " " + ARGUMENT + " " + STATE,
        "int dropPlan(int) " + INDEX,
        "int setOutside(int) " + ARGUMENT,
        "int setControl(int,int,int) " + ARGUMENT,
        "int newBattery(int,int) " + INDEX + " " + ARGUMENT,
        "int turn(int,int) " + INDEX + " " + ARGUMENT,
        "int keep(int) " + INDEX,
        "int restore(int) " + INDEX + " " + STATE,
        "int undo() " + STATE,
        "int undoCount()",
        "int writeRooms()",
        "int writeProgram(int) " + INDEX,
        "int writePlans()",
        "int outputByte(int) " + ELEMENT,
        "int NONE = -1",
        "int PARSE_ERROR = -4",
        "int OPEN = 0",
        "int CLOSE = 1",
        "int COME = 2",
        "int GO = 3",
    };

    public static void main(String[] arguments) throws IllegalAccessException {
        Checks checks = new Checks();
        TreeSet<String> due = new TreeSet<>(List.of(FACE));
        TreeSet<String> found = faceOf(ValveRoom.class);
        for (String member : due) {
            checks.that("has " + member, found.contains(member));
        }
        for (String member : found) {
            checks.that("may have " + member, due.contains(member));
        }
        int modifiers = ValveRoom.class.getModifiers();
        checks.that("public and final", Modifier.isPublic(modifiers) && Modifier.isFinal(modifiers));
        checks.that("no package", ValveRoom.class.getPackageName().isEmpty());
        checkNames(checks);
        checkClassesInside(checks);
        checks.end();
    }

    private static TreeSet<String> faceOf(Class<?> type) throws IllegalAccessException {
        TreeSet<String> found = new TreeSet<>();
        for (Constructor<?> one : type.getDeclaredConstructors()) {
            if (isSeen(one.getModifiers()) && !one.isSynthetic()) {
                found.add(type.getSimpleName() + tail(one));
            }
        }
        for (Method one : type.getDeclaredMethods()) {
            if (isSeen(one.getModifiers()) && !one.isSynthetic()) {
                found.add(one.getReturnType().getSimpleName() + " " + one.getName() + tail(one));
            }
        }
        for (Field one : type.getDeclaredFields()) {
            if (isSeen(one.getModifiers()) && !one.isSynthetic()) {
                found.add(one.getType().getSimpleName() + " " + one.getName() + " = " + one.get(null));
            }
        }
        return found;
    }

    private static boolean isSeen(int modifiers) {
        return !Modifier.isPrivate(modifiers);
    }

    private static String tail(Executable one) {
        List<String> parameters = new ArrayList<>();
        for (Class<?> parameter : one.getParameterTypes()) {
            parameters.add(parameter.getSimpleName());
        }
        StringBuilder tail = new StringBuilder("(" + String.join(",", parameters) + ")");
        for (Class<?> thrown : one.getExceptionTypes()) {
            tail.append(' ').append(thrown.getSimpleName());
        }
        return tail.toString();
    }

    /** LANGUAGE.md, rule 1: no private method bears the name of a public one, nor does one of a class inside. */
    private static void checkNames(Checks checks) {
        TreeSet<String> shown = new TreeSet<>();
        for (Method one : ValveRoom.class.getDeclaredMethods()) {
            if (Modifier.isPublic(one.getModifiers())) {
                shown.add(one.getName());
            }
        }
        checkNoSecond(checks, ValveRoom.class, shown);
        for (Class<?> inside : ValveRoom.class.getDeclaredClasses()) {
            checkNoSecond(checks, inside, shown);
        }
    }

    private static void checkNoSecond(Checks checks, Class<?> type, TreeSet<String> shown) {
        for (Method one : type.getDeclaredMethods()) {
            if (!Modifier.isPublic(one.getModifiers())) {
                String told = "no second " + one.getName() + " in " + type.getSimpleName();
                checks.that(told, !shown.contains(one.getName()));
            }
        }
    }

    /** LANGUAGE.md, rule 1: "the classes inside it, which are private or package-visible and static" */
    private static void checkClassesInside(Checks checks) {
        for (Class<?> inside : ValveRoom.class.getDeclaredClasses()) {
            int modifiers = inside.getModifiers();
            boolean hidden = !Modifier.isPublic(modifiers) && !Modifier.isProtected(modifiers);
            checks.that(inside.getSimpleName() + " is hidden and static", hidden && Modifier.isStatic(modifiers));
        }
    }
}
