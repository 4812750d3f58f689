import java.util.Random;

/**
 * Random calls, told as a number of the method and a row of arguments, that mostly fit the desk as it is. The seed is
 * fixed, so that every run of a test is the same.
 */
final class RandomCalls {
    static final String[] NAMES = {"land", "cell", "told", "survey", "lose", "mark", "copy", "read", "road", "claimant",
        "isOf", "claim", "withdraw", "rule", "object", "upheld", "holder", "sum", "has", "allot", "take", "good", "plot",
        "draw", "hedge", "fine", "count"};
    private static final int[] ODD = {-1, -2, 0, 1, 10, 80, 81, 100, 151, 1000, 1001, 20001,
        Integer.MIN_VALUE, Integer.MAX_VALUE, Integer.MIN_VALUE + 1, Integer.MAX_VALUE - 1};

    private final Random random;
    private final int oddOfHundred;

    RandomCalls(long seed, int oddOfHundred) {
        random = new Random(seed);
        this.oddOfHundred = oddOfHundred;
    }

    int upTo(int most) {
        return random.nextInt(most + 1);
    }

    private int between(int least, int most) {
        return least + upTo(most - least);
    }

    private int pick(int... of) {
        return of[random.nextInt(of.length)];
    }

    private int day() {
        return pick(upTo(999), upTo(20), between(480, 520), 999);
    }

    int[] argumentsOf(String name, int cells, int claimants, int mostTries) {
        int[] a = fitting(name, Math.max(0, cells - 1), Math.max(0, claimants - 1), mostTries);
        for (int i = 0; i < a.length; i++) {
            if (upTo(99) < oddOfHundred) a[i] = pick(ODD);
        }
        return a;
    }

    private int[] fitting(String name, int cell, int who, int mostTries) {
        int w = upTo(who), c = upTo(cell);
        switch (name) {
            case "land": return new int[] {between(2, 10), between(2, 8)};
            case "cell": {
                int what = upTo(2);
                return new int[] {c, what, upTo(new int[] {9, 1 + upTo(1), 1}[what])};
            }
            case "told": return new int[] {c, upTo(2)};
            case "survey": return new int[] {upTo(2), upTo(2), pick(upTo(80), upTo(5), 80)};
            case "lose": case "read": return new int[] {upTo(2)};
            case "mark": return new int[] {upTo(2), upTo(10), pick(upTo(9), upTo(9), upTo(9), random.nextInt())};
            case "copy": return new int[] {upTo(2), upTo(5), upTo(2), upTo(5), between(-1, 8)};
            case "road": return new int[] {c, upTo(cell)};
            case "claimant": return new int[] {upTo(4), c};
            case "isOf": return new int[] {w, upTo(4)};
            case "claim": return new int[] {w, pick(c, upTo(Math.min(cell, 5)), between(101, 150)), upTo(3), day()};
            case "withdraw": return new int[0];
            case "rule": {
                int which = upTo(4);
                return new int[] {which, upTo(new int[] {999, 999, 50, 30, pick(3, 8, 50)}[which])};
            }
            case "object": return new int[] {w, pick(c, upTo(Math.min(cell, 5))), day()};
            case "upheld": return new int[] {upTo(19)};
            case "holder": return new int[] {c, day()};
            case "sum": return new int[] {upTo(5), day()};
            case "has": return new int[] {w, upTo(4), day()};
            case "allot": return new int[] {w, c, 11 * between(1, pick(3, 10)) + between(1, pick(3, 10))};
            case "take": return new int[] {w};
            case "good": case "fine": return new int[] {w, day()};
            case "plot": return new int[] {w, upTo(5)};
            case "draw": return new int[] {day(), between(1, pick(20, mostTries)), upTo(1)};
            case "hedge": return new int[] {w, pick(-1, day(), between(850, 999))};
            default: return new int[] {upTo(6)};
        }
    }
}
