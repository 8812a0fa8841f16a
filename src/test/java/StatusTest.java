import java.util.LinkedHashMap;
import java.util.Map;

/** Promise 34: which calls tell status() anew, and which leave it. */
public final class StatusTest {
    private static final int BAD = Houses.BAD, STATE = Houses.STATE, FULL = Houses.FULL;
    private static final int[] FINDINGS = {1, 2, 3, 4, 5};
    private static final Checks checks = new Checks("status");

    public static void main(String[] args) {
        nothingAtFirst();
        eachFindingIsTold();
        eachCallWithARowTellsNone();
        allOtherCallsLeaveIt();
        refusalsLeaveIt();
        statusTwice();
        checks.end();
    }

    private static HeedClock scene() {
        HeedClock clock = Houses.of(Houses.ALL_SORTS);
        clock.row(0, 0, 3);
        clock.row(1, 1, 3);
        clock.image(0);
        clock.quarters(2);
        return clock;
    }

    /** A clock whose latest finding has this number. */
    private static HeedClock found(int number) {
        HeedClock clock = scene();
        switch (number) {
            case 1 -> clock.drop(7);
            case 2 -> clock.set(0, 3, 0);
            case 3 -> clock.as(0, 2);
            case 4 -> clock.row(0, 0, -1);
            default -> clock.copy(0, 0, 1, 0, 1);
        }
        return clock;
    }

    private static void nothingAtFirst() {
        checks.due("a new object", new HeedClock().status(), 0);
        checks.due("no finding yet", scene().status(), 0);
    }

    private static void eachFindingIsTold() {
        for (int number : FINDINGS) {
            checks.due("finding", found(number).status(), number);
        }
        HeedClock clock = scene();
        int[] answers = {clock.drop(7), clock.set(0, 3, 0), clock.as(0, 2), clock.row(0, 0, -1),
            clock.copy(0, 0, 1, 0, 1)};
        for (int i = 0; i < answers.length; i++) {
            checks.due("answer of finding " + (i + 1), answers[i], -1000010 - (i + 1));
        }
    }

    private static void eachCallWithARowTellsNone() {
        Map<String, Call> calls = new LinkedHashMap<>();
        calls.put("row", clock -> clock.row(0, 0, 3));
        calls.put("row of none", clock -> clock.row(4, 0, 0));
        calls.put("set", clock -> clock.set(0, 0, 1));
        calls.put("set to a number as low as a refusal", clock -> setLow(clock));
        calls.put("copy", clock -> clock.copy(0, 0, 0, 1, 2));
        calls.put("copy of none", clock -> clock.copy(0, 3, 0, 3, 0));
        calls.put("drop", clock -> clock.drop(0));
        calls.put("who", clock -> clock.who(0, 0, 1, 0));
        calls.put("who, NONE", clock -> noneListens(clock));
        calls.put("heed", clock -> clock.heed(0, 0, 0, 1));
        calls.put("as", clock -> clock.as(0, 1));
        for (int number : FINDINGS) {
            for (Map.Entry<String, Call> one : calls.entrySet()) {
                HeedClock clock = found(number);
                one.getValue().of(clock);
                checks.due("status of " + one.getKey() + " behind " + number, clock.status(), 0);
            }
        }
    }

    /** The item is what it is, whatever refusals look like. */
    private static int setLow(HeedClock clock) {
        clock.row(5, 2, 1);
        clock.drop(6);
        checks.due("set", clock.set(5, 0, BAD), BAD);
        return 0;
    }

    private static int noneListens(HeedClock clock) {
        clock.row(5, 2, 1);
        clock.set(5, 0, 99);
        clock.drop(6);
        checks.due("nobody gives 99", clock.who(5, 0, 1, 1), Houses.NONE);
        return 0;
    }

    private static void allOtherCallsLeaveIt() {
        Map<String, Call> calls = new LinkedHashMap<>();
        calls.put("feed", clock -> clock.feed('c'));
        calls.put("house", clock -> Houses.read(clock, "c1;"));
        calls.put("house with a fault", clock -> clock.house());
        calls.put("fault", clock -> clock.fault());
        calls.put("quarters", clock -> clock.quarters(1));
        calls.put("go", clock -> clock.go(0, 1));
        calls.put("hush", clock -> clock.hush(0, 1));
        calls.put("wool", clock -> clock.wool(3));
        calls.put("undo", clock -> clock.undo());
        calls.put("ear", clock -> clock.ear(0, 0));
        calls.put("clock", clock -> clock.clock(0));
        calls.put("ahead", clock -> clock.ahead(1));
        calls.put("whenShows", clock -> clock.whenShows(1));
        calls.put("done", clock -> clock.done(0));
        calls.put("late", clock -> clock.late());
        calls.put("latest", clock -> clock.latest(0));
        calls.put("toHush", clock -> clock.toHush(0, 1, 0));
        calls.put("toCall", clock -> clock.toCall(0, 1, 0));
        calls.put("older", clock -> clock.older(0, 1, 1));
        calls.put("odds", clock -> clock.odds(1, 1, 0));
        calls.put("image", clock -> clock.image(1));
        calls.put("restore", clock -> clock.restore(0));
        calls.put("kind", clock -> clock.kind(0));
        calls.put("ask", clock -> clock.ask(0, 0));
        calls.put("trace", clock -> clock.trace(0));
        calls.put("count", clock -> clock.count(0));
        for (int number : FINDINGS) {
            for (Map.Entry<String, Call> one : calls.entrySet()) {
                HeedClock clock = found(number);
                one.getValue().of(clock);
                checks.due("status behind " + one.getKey(), clock.status(), number);
            }
        }
    }

    private static void refusalsLeaveIt() {
        for (int number : FINDINGS) {
            HeedClock clock = found(number);
            int[] bads = {clock.row(8, 0, 1), clock.row(0, 0, 41), clock.set(8, 0, 0), clock.copy(0, 0, 8, 0, 0),
                clock.drop(-1), clock.who(0, 0, 17, 0), clock.heed(0, 0, 0, 0), clock.as(0, 6), clock.as(6, 0),
                clock.feed(256), clock.quarters(21)};
            for (int bad : bads) {
                checks.due("BAD", bad, BAD);
            }
            checks.due("BAD leaves it", clock.status(), number);
            checks.due("STATE", clock.go(0, 0), STATE);
            checks.due("STATE leaves it", clock.status(), number);
            for (int i = 0; i < 120; i++) {
                clock.feed('c');
            }
            checks.due("FULL", clock.feed('c'), FULL);
            checks.due("FULL leaves it", clock.status(), number);
        }
        HeedClock houseless = new HeedClock();
        houseless.drop(0);
        checks.due("STATE of a call with a row", houseless.who(0, 0, 1, 0), STATE);
        checks.due("leaves it, too", houseless.status(), 1);
    }

    private static void statusTwice() {
        HeedClock clock = found(5);
        checks.due("once", clock.status(), 5);
        checks.due("twice", clock.status(), 5);
    }
}
