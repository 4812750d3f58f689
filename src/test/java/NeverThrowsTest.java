import java.lang.management.ManagementFactory;
import java.lang.reflect.InvocationTargetException;
import java.lang.reflect.Method;

/** Any arguments in any state: no call throws, and all calls of an object make little that is new. */
public final class NeverThrowsTest {
    private static final Check CHECK = new Check("NeverThrowsTest");
    // A quarter of the room's 7.3 million elements, at 8 bytes each.
    private static final long MOST_BYTES = 8L * 7_300_000 / 4;

    public static void main(String[] args) throws Exception {
        for (int run = 0; run < 60; run++) anyCalls(run, run % 5 * 20);
        room();
        CHECK.end();
    }

    private static Method method(String name) {
        for (Method m : AwardDesk.class.getMethods()) {
            if (m.getDeclaringClass() == AwardDesk.class && m.getName().equals(name)) return m;
        }
        throw new IllegalStateException("no method " + name);
    }

    /** More calls than the document promises answers for: those behind them must not throw, either. */
    private static void anyCalls(int run, int oddOfHundred) throws Exception {
        RandomCalls calls = new RandomCalls(run, oddOfHundred);
        AwardDesk x = new AwardDesk();
        int cells = 30;
        for (int i = 0; i < 1500; i++) {
            String name = RandomCalls.NAMES[calls.upTo(RandomCalls.NAMES.length - 1)];
            if (name.equals("land") && calls.upTo(20) > 0) name = "claim";
            int[] a = calls.argumentsOf(name, cells, x.count(0), 20000);
            Object[] arguments = new Object[a.length];
            for (int k = 0; k < a.length; k++) arguments[k] = a[k];
            try {
                int got = (Integer) method(name).invoke(x, arguments);
                CHECK.isTrue(name + " answered " + got, got >= 0 || isNamed(got) || name.equals("mark"));
                if (name.equals("land") && got > 0) cells = got;
            } catch (InvocationTargetException e) {
                CHECK.say(name + java.util.Arrays.toString(a) + " threw " + e.getCause());
            }
        }
    }

    private static boolean isNamed(int got) {
        return got == AwardDesk.NONE || got == AwardDesk.BAD || got == AwardDesk.NO || got == AwardDesk.FULL
            || got == AwardDesk.SPENT || got == AwardDesk.NOTHING || got == AwardDesk.INDEX || got == AwardDesk.SIZE;
    }

    private static AwardDesk village() {
        AwardDesk x = new AwardDesk();
        x.land(10, 8);
        for (int i = 0; i < 8; i++) x.claimant(i % 5, 10 * i);
        for (int i = 0; i < 40; i++) {
            x.cell(i, 1, 1);
            x.claim(i % 8, i, 1, i);
        }
        for (int i = 0; i < 20; i++) x.object(i % 8, i, 100);
        x.road(40, 49);
        x.rule(4, 50);
        return x;
    }

    private static void room() {
        if (!(ManagementFactory.getThreadMXBean() instanceof com.sun.management.ThreadMXBean bean)) return;
        long thread = Thread.currentThread().getId(), before = bean.getThreadAllocatedBytes(thread);
        AwardDesk x = village();
        for (int i = 0; i < 400; i++) {
            x.draw(500, 50, i % 2);
            x.survey(i % 3, i % 3, 80);
            x.has(i % 8, 3, 999);
            x.road(i % 80, (7 * i + 3) % 80);
        }
        long made = bean.getThreadAllocatedBytes(thread) - before;
        CHECK.isTrue("a run of calls made " + made + " bytes", made < MOST_BYTES);
    }
}
