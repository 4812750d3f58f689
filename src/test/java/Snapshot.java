import java.util.function.Supplier;
import java.util.function.ToIntFunction;

/** All that a desk tells of its state, in one text. To read it uses the desk up: claims are withdrawn, surveys lost. */
final class Snapshot {
    private static final int[] DAYS = {60, 500, 999};
    private final AwardDesk x;
    private final StringBuilder text = new StringBuilder();

    private Snapshot(AwardDesk x) {
        this.x = x;
    }

    static String of(AwardDesk x) {
        Snapshot s = new Snapshot(x);
        s.rules();
        s.land();
        s.worths();
        s.claimants();
        s.surveys();
        s.homes();
        s.claims();
        return s.text.toString();
    }

    /** Makes a desk twice; one of the two is asked for what it refuses, and must be as the other one then. */
    static void refused(Check check, Supplier<AwardDesk> desk, String call, ToIntFunction<AwardDesk> ask, int want) {
        AwardDesk asked = desk.get(), other = desk.get();
        check.due(call, ask.applyAsInt(asked), want);
        check.isTrue(call + " is refused and changes something", of(asked).equals(of(other)));
    }

    private void add(String name, int answer) {
        text.append(name).append('=').append(answer).append(' ');
    }

    private void rules() {
        for (int which = 0; which < 5; which++) {
            int was = x.rule(which, 0);
            x.rule(which, was);
            add("rule" + which, was);
        }
        for (int what = 0; what < 7; what++) add("count" + what, x.count(what));
    }

    private void land() {
        int cell = 0;
        for (; cell < 80 && x.told(cell, 0) != AwardDesk.BAD; cell++) {
            for (int what = 0; what < 3; what++) add("cell" + cell, x.told(cell, what));
            add("holder" + cell, x.holder(cell, 500));
        }
        add("cells", cell);
    }

    private void worths() {
        for (int day : DAYS) add("weights" + day, x.sum(4, day));
        add("rest", x.sum(3, 0));
        add("expense", x.sum(5, 0));
        for (int i = 0; i < x.count(3); i++) add("upheld" + i, x.upheld(i));
    }

    private void claimants() {
        for (int who = 0; who < x.count(0); who++) {
            for (int kind = 0; kind < 5; kind++) add("kind", x.isOf(who, kind));
            for (int what = 0; what < 5; what++) add("has" + who, x.has(who, what, 999));
            for (int what = 0; what < 6; what++) add("plot" + who, x.plot(who, what));
            add("good" + who, x.good(who, 500));
            int set = x.hedge(who, AwardDesk.NONE);
            x.hedge(who, set);
            add("hedge" + who, set);
        }
    }

    private void surveys() {
        for (int s = 0; s < 3; s++) {
            add("likeWidths", x.copy(s, 0, (s + 1) % 3, 0, 0));
            for (int place = 0; place < 6; place++) {
                // An answer of NOTHING or INDEX is a refusal here: the marks of the desks that are read are 0 and above.
                int was = x.mark(s, place, 70000);
                add("mark" + s, was);
                if (was < 0) break;
                add("width" + s, x.mark(s, place, 0));
            }
        }
        for (int s = 0; s < 3; s++) add("lost" + s, x.lose(s));
    }

    private void homes() {
        for (int who = 0; who < x.count(0); who++) {
            for (int cell = 0; cell < 2; cell++) {
                x.allot(who, cell, 12);
                add("home" + who, x.plot(who, 4));
            }
        }
    }

    private void claims() {
        for (int left = x.count(1); left > 0; left--) {
            add("weightsThen", x.sum(4, 999));
            add("withdraw", x.withdraw());
        }
    }
}
