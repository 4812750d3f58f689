import java.lang.reflect.Method;
import java.util.HashMap;
import java.util.Map;

/** All promises: random runs of calls, each answered by AwardDesk as PlainDesk answers it. */
public final class RandomRunsTest {
    private static final Check CHECK = new Check("RandomRunsTest");
    private static final Map<String, Method> OURS = methods(AwardDesk.class), THEIRS = methods(PlainDesk.class);
    // How often a call of a name comes while a village grows: the more often the more it adds.
    private static final String[] GROWING = {"cell", "cell", "cell", "claimant", "claim", "claim", "claim", "object",
        "road", "allot"};
    private static final Map<String, Integer> TOLD = new HashMap<>();

    public static void main(String[] args) throws Exception {
        int runs = args.length > 0 ? Integer.parseInt(args[0]) : 400;
        long seed = args.length > 1 ? Long.parseLong(args[1]) : 1;
        for (int run = 0; run < runs && CHECK.wrong() == 0; run++) {
            run(seed * 1000003 + run, run);
            drawnRun(seed * 7000003 + run);
        }
        for (String name : RandomCalls.NAMES) {
            CHECK.isTrue(name + " was never answered with a sound answer", TOLD.getOrDefault(name, 0) > 0);
        }
        String[] kinds = {" spent", " impossible", " near", " moved"};
        for (String kind : kinds) {
            for (int plots = 1; plots <= 4; plots++) {
                CHECK.isTrue("no draw of " + plots + kind, TOLD.getOrDefault("draw of " + plots + kind, 0) > 0);
            }
        }
        CHECK.end();
    }

    private static String kindOf(int answer) {
        return answer == PlainDesk.SPENT ? " spent" : answer < 0 ? " impossible" : answer < 1000 ? " near" : " moved";
    }

    private static Map<String, Method> methods(Class<?> of) {
        Map<String, Method> all = new HashMap<>();
        for (Method m : of.getMethods()) {
            if (m.getDeclaringClass() == of) all.put(m.getName(), m);
        }
        return all;
    }

    private static void run(long seed, int number) throws Exception {
        RandomCalls calls = new RandomCalls(seed, number % 4 == 0 ? 10 : 1);
        AwardDesk ours = new AwardDesk();
        PlainDesk theirs = new PlainDesk();
        StringBuilder told = new StringBuilder();
        boolean small = number % 3 != 0;
        if (small) same(ours, theirs, "land", new int[] {2 + calls.upTo(3), 2 + calls.upTo(3)}, told);
        int grow = calls.upTo(120);
        for (int i = 0; i < 500 && CHECK.wrong() == 0; i++) {
            String name = i < grow ? GROWING[calls.upTo(GROWING.length - 1)]
                : RandomCalls.NAMES[calls.upTo(RandomCalls.NAMES.length - 1)];
            if (name.equals("land") && calls.upTo(9) > 0) name = "draw";
            int[] a = calls.argumentsOf(name, theirs.cells.size(), theirs.people.size(), small ? 2000 : 150);
            same(ours, theirs, name, a, told);
            if (name.equals("draw")) samePlots(ours, theirs, told);
        }
    }

    /** A run that is made for drawing: strips held by several claimants, and roads, and draws again and again. */
    private static void drawnRun(long seed) throws Exception {
        RandomCalls calls = new RandomCalls(seed, 0);
        AwardDesk ours = new AwardDesk();
        PlainDesk theirs = new PlainDesk();
        StringBuilder told = new StringBuilder();
        same(ours, theirs, "land", new int[] {3 + calls.upTo(4), 3 + calls.upTo(4)}, told);
        int cells = theirs.cells.size(), people = 2 + calls.upTo(3);
        for (int i = 0; i < people; i++) same(ours, theirs, "claimant", new int[] {calls.upTo(4), calls.upTo(cells - 1)}, told);
        for (int i = 0; i < 2 + calls.upTo(10); i++) {
            int cell = calls.upTo(cells - 1);
            same(ours, theirs, "cell", new int[] {cell, 0, calls.upTo(9)}, told);
            same(ours, theirs, "cell", new int[] {cell, 1, 1}, told);
            same(ours, theirs, "claim", new int[] {calls.upTo(people - 1), cell, calls.upTo(3), calls.upTo(50)}, told);
        }
        for (int i = 0; i <= calls.upTo(2); i++) same(ours, theirs, "road", calls.argumentsOf("road", cells, people, 1), told);
        String[] between = {"cell", "rule", "allot", "take", "claim", "road", "object"};
        for (int i = 0; i < 40 && CHECK.wrong() == 0; i++) {
            String name = i % 2 == 0 ? "draw" : between[calls.upTo(between.length - 1)];
            int[] a = calls.argumentsOf(name, cells, people, 400);
            if (i % 2 == 0) a[0] = 100;
            same(ours, theirs, name, a, told);
            if (i % 2 == 0) samePlots(ours, theirs, told);
        }
    }

    private static void samePlots(AwardDesk ours, PlainDesk theirs, StringBuilder told) throws Exception {
        for (int who = 0; who < theirs.people.size(); who++) {
            for (int what = 0; what <= 5; what++) same(ours, theirs, "plot", new int[] {who, what}, told);
        }
    }

    private static void same(AwardDesk ours, PlainDesk theirs, String name, int[] a, StringBuilder told) throws Exception {
        Object[] arguments = new Object[a.length];
        for (int i = 0; i < a.length; i++) arguments[i] = a[i];
        int got = (Integer) OURS.get(name).invoke(ours, arguments);
        int want = (Integer) THEIRS.get(name).invoke(theirs, arguments);
        String call = name + java.util.Arrays.toString(a);
        told.append(call).append(" = ").append(want).append('\n');
        CHECK.due(call, got, want);
        if (want >= 0) TOLD.merge(name, 1, Integer::sum);
        if (name.equals("draw")) TOLD.merge("draw of " + theirs.count(4) + kindOf(want), 1, Integer::sum);
        if (got != want) System.out.println(told);
    }
}
