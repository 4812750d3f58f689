import java.lang.reflect.Method;

/**
 * Every argument of every call: the least and the most that it may be, one less and one more, and the ends of int. What
 * is refused with BAD changes nothing.
 */
public final class BoundsTest {
    private static final int BAD = AwardDesk.BAD, LAST_CELL = 11, LAST_CLAIMANT = 3, LAST_DAY = 999;
    private static final Check CHECK = new Check("BoundsTest");

    public static void main(String[] args) {
        land();
        surveys();
        claims();
        rules();
        worths();
        plots();
        CHECK.end();
    }

    private static int call(AwardDesk x, String name, int... arguments) {
        try {
            for (Method m : AwardDesk.class.getMethods()) {
                if (m.getDeclaringClass() != AwardDesk.class || !m.getName().equals(name)) continue;
                Object[] boxed = new Object[arguments.length];
                for (int i = 0; i < boxed.length; i++) boxed[i] = arguments[i];
                return (Integer) m.invoke(x, boxed);
            }
        } catch (ReflectiveOperationException e) {
            CHECK.say(name + java.util.Arrays.toString(arguments) + ": " + e);
        }
        throw new IllegalStateException("no method " + name);
    }

    /** The argument at a place may be from the least to the most, the other ones being as told. */
    private static void within(String name, int place, int least, int most, int... arguments) {
        int[] sound = {least, most};
        for (int v : sound) isNotBad(name, with(arguments, place, v));
        int[] wrong = {least - 1, most + 1, Integer.MIN_VALUE, Integer.MAX_VALUE};
        for (int v : wrong) isBad(name, with(arguments, place, v));
    }

    private static int[] with(int[] arguments, int place, int v) {
        int[] changed = arguments.clone();
        changed[place] = v;
        return changed;
    }

    private static void isBad(String name, int... arguments) {
        String told = name + java.util.Arrays.toString(arguments);
        Snapshot.refused(CHECK, Village::lively, told, x -> call(x, name, arguments), BAD);
    }

    private static void isNotBad(String name, int... arguments) {
        String told = name + java.util.Arrays.toString(arguments);
        CHECK.isTrue(told + " answered BAD", call(Village.lively(), name, arguments) != BAD);
    }

    private static void land() {
        within("land", 0, 2, 10, 4, 3);
        within("land", 1, 2, 8, 4, 3);
        int[] mostOfMark = {9, 2, 1};
        for (int what = 0; what < 3; what++) {
            within("cell", 0, 0, LAST_CELL, 1, what, 0);
            within("cell", 2, 0, mostOfMark[what], 1, what, 0);
            within("told", 0, 0, LAST_CELL, 1, what);
        }
        within("cell", 1, 0, 2, 1, 0, 0);
        within("told", 1, 0, 2, 1, 0);
        within("road", 0, 0, LAST_CELL, 1, 2);
        within("road", 1, 0, LAST_CELL, 1, 2);
    }

    private static void surveys() {
        within("survey", 0, 0, 2, 0, 0, 5);
        within("survey", 1, 0, 2, 0, 0, 5);
        isNotBad("survey", 0, 0, 0);
        isNotBad("survey", 0, 0, 80);
        isBad("survey", 0, 0, 81);
        isBad("survey", 0, 0, Integer.MAX_VALUE);
        within("lose", 0, 0, 2, 0);
        within("mark", 0, 0, 2, 0, 0, 1);
        within("copy", 0, 0, 2, 0, 0, 0, 0, 1);
        within("copy", 2, 0, 2, 0, 0, 0, 0, 1);
        within("read", 0, 0, 2, 0);
    }

    private static void claims() {
        within("claimant", 0, 0, 4, 0, 0);
        within("claimant", 1, 0, LAST_CELL, 0, 0);
        within("isOf", 0, 0, LAST_CLAIMANT, 0, 0);
        within("isOf", 1, 0, 4, 0, 0);
        within("claim", 0, 0, LAST_CLAIMANT, 0, 1, 1, 10);
        within("claim", 1, 0, LAST_CELL, 0, 1, 1, 10);
        within("claim", 1, 101, 150, 0, 1, 1, 10);
        within("claim", 2, 0, 3, 0, 1, 1, 10);
        within("claim", 3, 0, LAST_DAY, 0, 1, 1, 10);
        // The same bounds hold for a claim for gates.
        within("claim", 0, 0, LAST_CLAIMANT, 0, 120, 1, 10);
        within("claim", 2, 0, 3, 0, 120, 1, 10);
        within("claim", 3, 0, LAST_DAY, 0, 120, 1, 10);
        within("object", 0, 0, LAST_CLAIMANT, 0, 1, 10);
        within("object", 1, 0, LAST_CELL, 0, 1, 10);
        within("object", 2, 0, LAST_DAY, 0, 1, 10);
        isBad("object", 0, 101, 10);
        within("upheld", 0, 0, 1, 0);
        within("holder", 0, 0, LAST_CELL, 1, 10);
        within("holder", 1, 0, LAST_DAY, 1, 10);
    }

    private static void rules() {
        within("rule", 0, 0, 4, 0, 0);
        int[] most = {LAST_DAY, LAST_DAY, 50, 1000, 50};
        for (int which = 0; which < 5; which++) within("rule", 1, 0, most[which], which, 0);
    }

    private static void worths() {
        within("sum", 0, 0, 5, 0, 10);
        for (int what = 0; what <= 5; what++) within("sum", 1, 0, LAST_DAY, what, 10);
        within("has", 1, 0, 4, 0, 0, 10);
        for (int what = 0; what <= 4; what++) {
            within("has", 0, 0, LAST_CLAIMANT, 0, what, 10);
            within("has", 2, 0, LAST_DAY, 0, what, 10);
        }
    }

    private static void plots() {
        within("allot", 0, 0, LAST_CLAIMANT, 0, 0, 12);
        within("allot", 1, 0, LAST_CELL, 0, 0, 12);
        within("allot", 2, 12, 21, 0, 0, 12);
        within("allot", 2, 111, 120, 0, 0, 12);
        within("take", 0, 0, LAST_CLAIMANT, 0);
        within("good", 0, 0, LAST_CLAIMANT, 0, 10);
        within("good", 1, 0, LAST_DAY, 0, 10);
        for (int what = 0; what <= 5; what++) within("plot", 0, 0, LAST_CLAIMANT, 0, what);
        within("plot", 1, 0, 5, 0, 0);
        within("draw", 0, 0, LAST_DAY, 10, 5, 0);
        within("draw", 1, 1, 20000, 10, 5, 0);
        within("draw", 2, 0, 1, 10, 5, 0);
        within("hedge", 0, 0, LAST_CLAIMANT, 0, 10);
        within("hedge", 1, AwardDesk.NONE, LAST_DAY, 0, 10);
        within("fine", 0, 0, LAST_CLAIMANT, 0, 10);
        within("fine", 1, 0, LAST_DAY, 0, 10);
        within("count", 0, 0, 6, 0);
        // Of a claimant without a plot wrong arguments are BAD, too.
        within("good", 1, 0, LAST_DAY, 2, 10);
        within("plot", 1, 0, 5, 2, 0);
        within("fine", 1, 0, LAST_DAY, 2, 10);
    }
}
