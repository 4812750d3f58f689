import java.lang.reflect.Method;
import java.util.HashMap;
import java.util.Map;

/** All promises: random runs of calls, each answered by AwardDesk as PlainDesk answers it. */
public final class RandomRunsTest {
    private static final Check CHECK = new Check("RandomRunsTest");
    private static final Map<String, Method> OURS = methods(AwardDesk.class), THEIRS = methods(PlainDesk.class);
    // How often a call of a name comes while a village grows: the more often the more it adds.
    private static final String[] GROWING = {"cell", "cell", "cell", "claimant", "claim", "claim", "claim", "object",
        "road", "allot"};
    private static final Map<String, Integer> TOLD = new HashMap<>();

    public static void main(String[] args) throws Exception {
        int runs = args.length > 0 ? Integer.parseInt(args[0]) : 400;
        long seed = args.length > 1 ? Long.parseLong(args[1]) : 1;
        for (int run = 0; run < runs && CHECK.wrong() == 0; run++) {
            run(seed * 1000003 + run, run);
            drawnRun(seed * 7000003 + run, false);
            claimsRun(seed * 5000011 + run);
            // Now and then a land of nearly all cells that there may be, for nearly all claimants that there may be.
            if (run % 20 == 0) drawnRun(seed * 9000011 + run, true);
        }
        for (String name : RandomCalls.NAMES) {
            CHECK.isTrue(name + " was never answered with a sound answer", TOLD.getOrDefault(name, 0) > 0);
        }
        String[] seldom = {"upheld()", "holder()", "fine()", "good()", "has(0)", "has(1)", "has(2)", "has(3)", "has(4)"};
        for (String name : seldom) {
            CHECK.isTrue(name + " was never above 0", TOLD.getOrDefault(name + " above 0", 0) > 0);
        }
        String[] kinds = {" spent", " impossible", " near", " moved"};
        for (String kind : kinds) {
            for (int plots = 1; plots <= 5; plots++) {
                CHECK.isTrue("no draw of " + plots + kind, TOLD.getOrDefault("draw of " + plots + kind, 0) > 0);
            }
        }
        CHECK.end();
    }

    private static String kindOf(int answer) {
        return answer == PlainDesk.SPENT ? " spent" : answer < 0 ? " impossible" : answer < 1000 ? " near" : " moved";
    }

    private static Map<String, Method> methods(Class<?> of) {
        Map<String, Method> all = new HashMap<>();
        for (Method m : of.getMethods()) {
            if (m.getDeclaringClass() == of) all.put(m.getName(), m);
        }
        return all;
    }

    private static void run(long seed, int number) throws Exception {
        RandomCalls calls = new RandomCalls(seed, number % 4 == 0 ? 10 : 1);
        AwardDesk ours = new AwardDesk();
        PlainDesk theirs = new PlainDesk();
        StringBuilder told = new StringBuilder();
        boolean small = number % 3 != 0;
        if (small) same(ours, theirs, "land", new int[] {2 + calls.upTo(3), 2 + calls.upTo(3)}, told);
        int grow = calls.upTo(120);
        for (int i = 0; i < 500 && CHECK.wrong() == 0; i++) {
            String name = i < grow ? GROWING[calls.upTo(GROWING.length - 1)]
                : RandomCalls.NAMES[calls.upTo(RandomCalls.NAMES.length - 1)];
            if (name.equals("land") && calls.upTo(9) > 0) name = "draw";
            int[] a = calls.argumentsOf(name, theirs.cells.size(), theirs.people.size(), small ? 2000 : 150);
            same(ours, theirs, name, a, told);
            if (name.equals("draw")) samePlots(ours, theirs, told);
        }
    }

    /** A run that is made for claims: a few strips that many claim on near days, objections, and all is asked for often. */
    private static void claimsRun(long seed) throws Exception {
        RandomCalls calls = new RandomCalls(seed, 0);
        AwardDesk ours = new AwardDesk();
        PlainDesk theirs = new PlainDesk();
        StringBuilder told = new StringBuilder();
        same(ours, theirs, "land", new int[] {2 + calls.upTo(2), 2 + calls.upTo(1)}, told);
        int cells = theirs.cells.size(), people = 1 + calls.upTo(7), strips = 1 + calls.upTo(3);
        for (int i = 0; i < people; i++) same(ours, theirs, "claimant", new int[] {calls.upTo(4), calls.upTo(cells - 1)}, told);
        for (int strip = 0; strip < strips; strip++) same(ours, theirs, "cell", new int[] {strip, 1, 1}, told);
        same(ours, theirs, "rule", new int[] {0, 2 + calls.upTo(8)}, told);
        String[] between = {"claim", "claim", "claim", "claim", "object", "object", "withdraw", "gates", "rule", "cell", "road"};
        for (int i = 0; i < 80 && CHECK.wrong() == 0; i++) {
            String name = between[calls.upTo(between.length - 1)];
            int who = calls.upTo(people - 1), strip = calls.upTo(strips - 1), day = calls.upTo(12);
            switch (name) {
                case "claim": same(ours, theirs, name, new int[] {who, strip, calls.upTo(3), day}, told); break;
                case "gates": same(ours, theirs, "claim", new int[] {who, 101 + calls.upTo(5), calls.upTo(3), day}, told); break;
                case "object": same(ours, theirs, name, new int[] {who, strip, day}, told); break;
                case "rule": same(ours, theirs, name, new int[] {i % 4, calls.upTo(i % 4 == 0 ? 12 : 50)}, told); break;
                case "road": if (i % 8 == 0) same(ours, theirs, name, new int[] {strip, cells - 1}, told); break;
                default: same(ours, theirs, name, calls.argumentsOf(name, cells, people, 1), told);
            }
            sameClaims(ours, theirs, strip, calls.upTo(12), told);
        }
    }

    private static void sameClaims(AwardDesk ours, PlainDesk theirs, int strip, int day, StringBuilder told) throws Exception {
        same(ours, theirs, "holder", new int[] {strip, day}, told);
        for (int i = 0; i < theirs.objections.size(); i++) same(ours, theirs, "upheld", new int[] {i}, told);
        for (int what = 0; what <= 5; what++) same(ours, theirs, "sum", new int[] {what, day}, told);
        for (int who = 0; who < theirs.people.size(); who++) {
            for (int what = 0; what <= 4; what++) same(ours, theirs, "has", new int[] {who, what, day}, told);
        }
    }

    /** A run that is made for drawing: strips held by several claimants, and roads, and draws again and again. */
    private static void drawnRun(long seed, boolean isLarge) throws Exception {
        RandomCalls calls = new RandomCalls(seed, 0);
        AwardDesk ours = new AwardDesk();
        PlainDesk theirs = new PlainDesk();
        StringBuilder told = new StringBuilder();
        int leastWide = isLarge ? 9 : 3, leastHigh = isLarge ? 7 : 3, leastPeople = isLarge ? 5 : 2, sides = isLarge ? 1 : 4;
        same(ours, theirs, "land", new int[] {leastWide + calls.upTo(sides), leastHigh + calls.upTo(sides)}, told);
        int cells = theirs.cells.size(), people = leastPeople + calls.upTo(3);
        for (int i = 0; i < people; i++) same(ours, theirs, "claimant", new int[] {calls.upTo(4), calls.upTo(cells - 1)}, told);
        int strips = people + calls.upTo(10);
        for (int i = 0; i < strips; i++) {
            int cell = calls.upTo(cells - 1);
            same(ours, theirs, "cell", new int[] {cell, 0, calls.upTo(9)}, told);
            same(ours, theirs, "cell", new int[] {cell, 1, 1}, told);
            same(ours, theirs, "claim", new int[] {i % people, cell, calls.upTo(3), calls.upTo(50)}, told);
        }
        if (isLarge) closeMost(calls, ours, theirs, told);
        // With many plots a small SLACK is hard to meet.
        same(ours, theirs, "rule", new int[] {4, calls.upTo(4 * leastPeople)}, told);
        for (int i = 0; i <= calls.upTo(2); i++) same(ours, theirs, "road", calls.argumentsOf("road", cells, people, 1), told);
        String[] between = {"cell", "rule", "allot", "take", "claim", "road", "object"};
        for (int i = 0; i < 40 && CHECK.wrong() == 0; i++) {
            String name = i % 2 == 0 ? "draw" : between[calls.upTo(between.length - 1)];
            int[] a = calls.argumentsOf(name, cells, people, 400);
            if (i % 2 == 0) a[0] = 100;
            same(ours, theirs, name, a, told);
            if (i % 2 == 0) samePlots(ours, theirs, told);
        }
    }

    /** Leaves so few plain cells that many plots can be drawn with few tries; some of the others are road. */
    private static void closeMost(RandomCalls calls, AwardDesk ours, PlainDesk theirs, StringBuilder told) throws Exception {
        int cells = theirs.cells.size();
        for (int i = 0; i < 2 * cells; i++) {
            int cell = calls.upTo(cells - 1);
            if (theirs.told(cell, 1) == 1) continue;
            same(ours, theirs, "cell", new int[] {cell, 1, 2}, told);
            same(ours, theirs, "cell", new int[] {cell, 2, calls.upTo(1)}, told);
        }
    }

    private static void samePlots(AwardDesk ours, PlainDesk theirs, StringBuilder told) throws Exception {
        for (int who = 0; who < theirs.people.size(); who++) {
            for (int what = 0; what <= 5; what++) same(ours, theirs, "plot", new int[] {who, what}, told);
        }
    }

    private static void same(AwardDesk ours, PlainDesk theirs, String name, int[] a, StringBuilder told) throws Exception {
        Object[] arguments = new Object[a.length];
        for (int i = 0; i < a.length; i++) arguments[i] = a[i];
        int got = (Integer) OURS.get(name).invoke(ours, arguments);
        int want = (Integer) THEIRS.get(name).invoke(theirs, arguments);
        String call = name + java.util.Arrays.toString(a);
        told.append(call).append(" = ").append(want).append('\n');
        CHECK.due(call, got, want);
        if (want >= 0) TOLD.merge(name, 1, Integer::sum);
        if (want > 0) TOLD.merge(name + "(" + (name.equals("has") ? a[1] : "") + ") above 0", 1, Integer::sum);
        if (name.equals("draw")) TOLD.merge("draw of " + theirs.count(4) + kindOf(want), 1, Integer::sum);
        if (got != want) System.out.println(told);
    }
}
