/** Promises 29 to 34: kinds, casts, asks and their trace, counts, status. */
public final class AskedTest {
    private static final int NONE = Houses.NONE, BAD = Houses.BAD, KIND = Houses.KIND;
    private static final Checks checks = new Checks("asked");

    public static void main(String[] args) {
        promise29Kind();
        promise30As();
        promise31Ask();
        promise31AskSeesWhatChanges();
        promise32Trace();
        promise33Count();
        promise34StatusOfAs();
        checks.end();
    }

    private static void promise29Kind() {
        HeedClock clock = Houses.of(Houses.ALL_SORTS);
        int[] kinds = {1, 2, 3, 4, 5, 1};
        for (int ear = 0; ear < 6; ear++) {
            checks.due("kind of " + ear, clock.kind(ear), kinds[ear]);
        }
        checks.due("ear -1", clock.kind(-1), BAD);
        checks.due("ear 6", clock.kind(6), BAD);
        checks.due("no house", new HeedClock().kind(0), BAD);
    }

    private static void promise30As() {
        HeedClock clock = Houses.of(Houses.ALL_SORTS);
        boolean[][] is = {
            {true, true, false, false, false, false},
            {true, true, true, false, false, false},
            {true, true, false, true, false, false},
            {true, false, false, false, true, false},
            {true, false, false, false, true, true},
        };
        for (int ear = 0; ear < is.length; ear++) {
            for (int kind = 0; kind < 6; kind++) {
                checks.due(ear + " as " + kind, clock.as(ear, kind), is[ear][kind] ? ear : KIND);
            }
        }
        checks.due("kind -1", clock.as(0, -1), BAD);
        checks.due("kind 6", clock.as(0, 6), BAD);
        checks.due("ear -1", clock.as(-1, 0), BAD);
        checks.due("ear 6", clock.as(6, 0), BAD);
        checks.due("no house", new HeedClock().as(0, 0), BAD);
    }

    private static void asked(HeedClock clock, int ear, int what, int answer, int... trace) {
        String call = "ask(" + ear + ", " + what + ")";
        checks.due(call, clock.ask(ear, what), answer);
        for (int i = 0; i < trace.length; i++) {
            checks.due("trace " + i + " of " + call, clock.trace(i), trace[i]);
        }
        checks.due("end of the trace of " + call, clock.trace(trace.length), NONE);
    }

    /** Behind one quarter of 17 parts. */
    private static void promise31Ask() {
        HeedClock clock = Houses.of(Houses.ALL_SORTS);
        clock.quarters(1);
        asked(clock, 0, 0, 9 + 0 + 17, 11, 10, 21, 20);
        asked(clock, 0, 1, 0 + 17, 21, 20);
        asked(clock, 1, 0, -(7 + 2 * (1 + 17)), 12, 11, 10, 24, 21, 20);
        asked(clock, 1, 1, 2 * (1 + 17), 24, 21, 20);
        asked(clock, 2, 0, 8 + 2 + 17 - 1000, 11, 10, 22, 21, 20);
        asked(clock, 2, 1, 2 + 17 - 1000, 22, 21, 20);
        asked(clock, 3, 0, 12 - 100, 13, 10);
        asked(clock, 3, 1, 3 - (12 - 100), 23, 20, 13, 10);
        asked(clock, 4, 0, 2 * (5 - 100), 14, 13, 10);
        asked(clock, 4, 1, 4 - 2 * (5 - 100), 23, 20, 14, 13, 10);
        asked(clock, 5, 0, 4 + 5 + 12, 11, 10, 21, 20);
        checks.due("what -1", clock.ask(0, -1), BAD);
        checks.due("what 2", clock.ask(0, 2), BAD);
        checks.due("ear -1", clock.ask(-1, 0), BAD);
        checks.due("ear 6", clock.ask(6, 0), BAD);
        checks.due("no house", new HeedClock().ask(0, 0), BAD);
        checks.due("what is refused leaves the trace", clock.trace(0), 11);
    }

    private static void promise31AskSeesWhatChanges() {
        HeedClock clock = Houses.of(Houses.ALL_SORTS);
        clock.wool(5);
        asked(clock, 3, 0, -88, 13, 10);
        asked(clock, 0, 0, 9, 11, 10, 21, 20);
        clock.as(1, 1);
        asked(clock, 1, 1, 2, 24, 21, 20);
        clock.quarters(3);
        clock.undo();
        int lived = clock.ear(0, 5);
        asked(clock, 0, 1, lived, 21, 20);
    }

    private static void promise32Trace() {
        HeedClock clock = Houses.of(Houses.ALL_SORTS);
        checks.due("empty at first", clock.trace(0), NONE);
        clock.ask(1, 0);
        checks.due("number 5", clock.trace(5), 20);
        checks.due("number 6", clock.trace(6), NONE);
        checks.due("number -1", clock.trace(-1), NONE);
        checks.due("number 16", clock.trace(16), NONE);
        checks.due("far", clock.trace(Integer.MAX_VALUE), NONE);
        checks.due("low", clock.trace(Integer.MIN_VALUE), NONE);
        clock.ask(3, 0);
        checks.due("empty ahead of an ask", clock.trace(2), NONE);
        Houses.read(clock, "c0;");
        checks.due("another house leaves it", clock.trace(0), 13);
    }

    private static void promise33Count() {
        HeedClock clock = Houses.of(Houses.ALL_SORTS);
        clock.row(0, 0, 0);
        clock.row(5, 1, 4);
        clock.quarters(4);
        clock.hush(0, 1);
        clock.hush(5, 1);
        clock.go(1, 2);
        Houses.feed(clock, "c1;");
        int[] counts = {2, 6, 3, 4, 2, 4, 7, 3};
        for (int what = 0; what < counts.length; what++) {
            checks.due("count " + what, clock.count(what), counts[what]);
        }
        checks.due("-1", clock.count(-1), BAD);
        checks.due("8", clock.count(8), BAD);
    }

    private static void promise34StatusOfAs() {
        HeedClock clock = Houses.of(Houses.ALL_SORTS);
        checks.due("none yet", clock.status(), 0);
        clock.as(0, 2);
        checks.due("KIND", clock.status(), 3);
        clock.as(0, 6);
        clock.as(6, 0);
        clock.kind(0);
        clock.ask(0, 0);
        clock.quarters(1);
        clock.go(0, 0);
        clock.restore(0);
        clock.house();
        clock.older(0, 1, 1);
        checks.due("yet", clock.status(), 3);
        clock.as(0, 1);
        checks.due("none", clock.status(), 0);
        clock.as(3, 1);
        clock.heed(0, 9, 0, 1);
        clock.who(9, 0, 1, 0);
        checks.due("BAD leaves it", clock.status(), 3);
        clock.row(0, 0, 3);
        checks.due("a row that was made", clock.status(), 0);
    }
}
