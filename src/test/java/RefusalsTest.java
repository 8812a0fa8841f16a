import java.util.ArrayList;
import java.util.List;

/**
 * What is refused, or found, changes nothing but status(): each refusal of each call is made on one of two clocks that
 * are alike, and then all that can be seen of both is held against each other. BAD, STATE and FULL leave status(), too.
 */
public final class RefusalsTest {
    private static final int NONE = Houses.NONE, BAD = Houses.BAD, STATE = Houses.STATE, FULL = Houses.FULL;
    private static final int NULL = Houses.NULL, PLACE = Houses.PLACE, KIND = Houses.KIND;
    private static final int SIZE = Houses.SIZE, STORE = Houses.STORE;
    private static final int STATUS_AHEAD = 3;
    private static final Checks checks = new Checks("refusals");

    private interface Scene {
        HeedClock make();
    }

    public static void main(String[] args) {
        badRows();
        badActs();
        badForetold();
        badAsked();
        states();
        statesWithoutAHouse();
        badWithoutAHouse();
        full();
        findings();
        faults();
        whatIsForetoldChangesNothing();
        theFirstThatFits();
        checks.end();
    }

    /** A house in the midst of it: rows of each lane, an image, acts, a trace, a fault, a tape, a finding. */
    private static HeedClock midst() {
        HeedClock clock = new HeedClock();
        Houses.read(clock, "c13;");
        Houses.read(clock, "c1;p9,0,0,8;w7,0,0,8;t8,0,2,4;k12,0,6,3;d5,0,0,8;p4,1,0,8;x0,3,5;x2,9,20;x50,4,40;");
        for (int row = 0; row <= 2; row++) {
            clock.row(row, row, 3);
            clock.set(row, 0, 14);
            clock.set(row, 2, 8 + row);
        }
        clock.row(3, 2, 0);
        clock.quarters(2);
        clock.image(0);
        clock.hush(1, 1);
        clock.quarters(1);
        clock.go(5, 0);
        clock.wool(2);
        clock.ask(1, 0);
        Houses.feed(clock, "c5;");
        clock.as(0, 2);
        return clock;
    }

    /** No house, but all that can be there without one. */
    private static HeedClock houseless() {
        HeedClock clock = new HeedClock();
        Houses.read(clock, "c1;q");
        clock.row(0, 0, 3);
        clock.set(0, 0, 14);
        clock.row(2, 1, 2);
        Houses.feed(clock, "c7;");
        clock.set(0, 9, 0);
        return clock;
    }

    private static void refused(Scene scene, String name, int due, int status, Call call) {
        HeedClock asked = scene.make();
        checks.due(name, call.of(asked), due);
        List<String> changed = difference(Seen.of(asked), Seen.of(scene.make()), status);
        checks.holds(name + " changed " + changed, changed.isEmpty());
    }

    /** The first line is status(), which is told apart. */
    private static List<String> difference(List<String> seen, List<String> untouched, int status) {
        List<String> changed = new ArrayList<>();
        if (!seen.get(0).equals("status " + status)) {
            changed.add(seen.get(0));
        }
        for (int i = 1; i < seen.size() && i < untouched.size(); i++) {
            if (!seen.get(i).equals(untouched.get(i))) {
                changed.add(seen.get(i));
            }
        }
        if (seen.size() != untouched.size()) {
            changed.add("how much there is to see");
        }
        return changed;
    }

    private static void bad(String name, Call call) {
        refused(RefusalsTest::midst, name, BAD, STATUS_AHEAD, call);
    }

    private static void badRows() {
        bad("row -1", clock -> clock.row(-1, 0, 1));
        bad("row 8", clock -> clock.row(8, 0, 1));
        bad("row of lane -1", clock -> clock.row(0, -1, 1));
        bad("row of lane 3", clock -> clock.row(0, 3, 1));
        bad("row of 41", clock -> clock.row(0, 0, 41));
        bad("set in row -1", clock -> clock.set(-1, 0, 1));
        bad("set in row 8", clock -> clock.set(8, 0, 1));
        bad("copy of row -1", clock -> clock.copy(-1, 0, 0, 0, 1));
        bad("copy of row 8", clock -> clock.copy(8, 0, 0, 0, 1));
        bad("copy to row -1", clock -> clock.copy(0, 0, -1, 0, 1));
        bad("copy to row 8", clock -> clock.copy(0, 0, 8, 0, 1));
        bad("drop of row -1", clock -> clock.drop(-1));
        bad("drop of row 8", clock -> clock.drop(8));
    }

    private static void badActs() {
        bad("feed of -1", clock -> clock.feed(-1));
        bad("feed of 256", clock -> clock.feed(256));
        bad("quarters 0", clock -> clock.quarters(0));
        bad("quarters 21", clock -> clock.quarters(21));
        bad("go of ear -1", clock -> clock.go(-1, 1));
        bad("go of ear 6", clock -> clock.go(6, 1));
        bad("go to -1", clock -> clock.go(0, -1));
        bad("go to 4", clock -> clock.go(0, 4));
        bad("hush of ear -1", clock -> clock.hush(-1, 1));
        bad("hush of ear 6", clock -> clock.hush(6, 1));
        bad("hush -1", clock -> clock.hush(0, -1));
        bad("hush 2", clock -> clock.hush(0, 2));
        bad("wool -1", clock -> clock.wool(-1));
        bad("wool 13", clock -> clock.wool(13));
        bad("ear -1", clock -> clock.ear(-1, 0));
        bad("ear 6", clock -> clock.ear(6, 0));
        bad("what 6 of an ear", clock -> clock.ear(0, 6));
        bad("what -1 of an ear", clock -> clock.ear(0, -1));
        bad("what 4 of the clock", clock -> clock.clock(4));
        bad("what -1 of the clock", clock -> clock.clock(-1));
    }

    private static void badForetold() {
        bad("ahead -1", clock -> clock.ahead(-1));
        bad("ahead 100", clock -> clock.ahead(100));
        bad("whenShows -1", clock -> clock.whenShows(-1));
        bad("whenShows 1000", clock -> clock.whenShows(1000));
        bad("done -1", clock -> clock.done(-1));
        bad("done 3 of 3", clock -> clock.done(3));
        bad("latest -1", clock -> clock.latest(-1));
        bad("latest 3 of 3", clock -> clock.latest(3));
        bad("toHush, v 1000", clock -> clock.toHush(1000, 1, 0));
        bad("toHush, n 100", clock -> clock.toHush(1, 100, 0));
        bad("toHush, what 2", clock -> clock.toHush(1, 1, 2));
        bad("toCall, v 1000", clock -> clock.toCall(1000, 1, 0));
        bad("toCall, n 100", clock -> clock.toCall(1, 100, 0));
        bad("toCall, what 2", clock -> clock.toCall(1, 1, 2));
        bad("who by row 8", clock -> clock.who(8, 0, 1, 0));
        bad("who by 0 items", clock -> clock.who(0, 0, 0, 0));
        bad("who by 17 items", clock -> clock.who(0, 0, 17, 0));
        bad("who, what 2", clock -> clock.who(0, 0, 1, 2));
        bad("heed of ear 6", clock -> clock.heed(6, 0, 0, 1));
        bad("heed by row 8", clock -> clock.heed(0, 8, 0, 1));
        bad("heed by 0 items", clock -> clock.heed(0, 0, 0, 0));
        bad("heed by 17 items", clock -> clock.heed(0, 0, 0, 17));
        bad("older, ear 6", clock -> clock.older(6, 0, 1));
        bad("older, the other 6", clock -> clock.older(0, 6, 1));
        bad("older, alike", clock -> clock.older(1, 1, 1));
        bad("older, n 100", clock -> clock.older(0, 1, 100));
        bad("odds of 100", clock -> clock.odds(100, 5, 0));
        bad("odds, c 11", clock -> clock.odds(1, 11, 0));
        bad("odds, what 2", clock -> clock.odds(1, 5, 2));
        bad("image -1", clock -> clock.image(-1));
        bad("image 2", clock -> clock.image(2));
        bad("restore -1", clock -> clock.restore(-1));
        bad("restore 2", clock -> clock.restore(2));
    }

    private static void badAsked() {
        bad("kind of ear 6", clock -> clock.kind(6));
        bad("as, ear 6", clock -> clock.as(6, 0));
        bad("as, kind 6", clock -> clock.as(0, 6));
        bad("as, kind -1", clock -> clock.as(0, -1));
        bad("ask of ear 6: the trace stays", clock -> clock.ask(6, 0));
        bad("ask of ear -1: the trace stays", clock -> clock.ask(-1, 0));
        bad("ask, what 2: the trace stays", clock -> clock.ask(0, 2));
        bad("ask, what -1: the trace stays", clock -> clock.ask(0, -1));
        bad("count -1", clock -> clock.count(-1));
        bad("count 8", clock -> clock.count(8));
        refused(RefusalsTest::midst, "trace 6", NONE, STATUS_AHEAD, clock -> clock.trace(6));
    }

    private static void state(String name, Call call) {
        refused(RefusalsTest::midst, name, STATE, STATUS_AHEAD, call);
    }

    private static void states() {
        state("go where it is", clock -> clock.go(0, 0));
        state("go where it went", clock -> clock.go(5, 0));
        state("hush of one that is", clock -> clock.hush(1, 1));
        state("unhush of one that is not", clock -> clock.hush(0, 0));
        state("restore of what was not kept", clock -> clock.restore(1));
        Scene nothingToUndo = () -> Houses.of("c1;p9,0,0,8;");
        refused(nothingToUndo, "undo of none", STATE, 0, clock -> clock.undo());
        Scene restored = () -> {
            HeedClock clock = midst();
            clock.restore(0);
            return clock;
        };
        refused(restored, "undo behind restore", STATE, STATUS_AHEAD, clock -> clock.undo());
    }

    private static void stateWithoutAHouse(String name, Call call) {
        refused(RefusalsTest::houseless, name + " without a house", STATE, 2, call);
    }

    /** With numbers that are BAD, too, where STATE is ahead of BAD. */
    private static void statesWithoutAHouse() {
        stateWithoutAHouse("quarters", clock -> clock.quarters(1));
        stateWithoutAHouse("quarters 21", clock -> clock.quarters(21));
        stateWithoutAHouse("wool", clock -> clock.wool(1));
        stateWithoutAHouse("wool 13", clock -> clock.wool(13));
        stateWithoutAHouse("undo", clock -> clock.undo());
        stateWithoutAHouse("clock", clock -> clock.clock(0));
        stateWithoutAHouse("clock 4", clock -> clock.clock(4));
        stateWithoutAHouse("ahead", clock -> clock.ahead(0));
        stateWithoutAHouse("ahead 100", clock -> clock.ahead(100));
        stateWithoutAHouse("whenShows", clock -> clock.whenShows(0));
        stateWithoutAHouse("whenShows 1000", clock -> clock.whenShows(1000));
        stateWithoutAHouse("late", clock -> clock.late());
        stateWithoutAHouse("toHush", clock -> clock.toHush(0, 0, 0));
        stateWithoutAHouse("toHush 1000", clock -> clock.toHush(1000, 100, 2));
        stateWithoutAHouse("toCall", clock -> clock.toCall(0, 0, 0));
        stateWithoutAHouse("toCall 1000", clock -> clock.toCall(1000, 100, 2));
        stateWithoutAHouse("who", clock -> clock.who(0, 0, 1, 0));
        stateWithoutAHouse("who by row 8", clock -> clock.who(8, 0, 17, 2));
        stateWithoutAHouse("who by a missing row", clock -> clock.who(1, 0, 1, 0));
        stateWithoutAHouse("who beyond the end", clock -> clock.who(0, 3, 1, 0));
        stateWithoutAHouse("odds", clock -> clock.odds(0, 0, 0));
        stateWithoutAHouse("odds 100", clock -> clock.odds(100, 11, 2));
        stateWithoutAHouse("image 0", clock -> clock.image(0));
        stateWithoutAHouse("image 1", clock -> clock.image(1));
        stateWithoutAHouse("restore 0", clock -> clock.restore(0));
        stateWithoutAHouse("restore 1", clock -> clock.restore(1));
    }

    private static void badWithoutAHouse(String name, Call call) {
        refused(RefusalsTest::houseless, name + " without a house", BAD, 2, call);
    }

    /** Without a house there is no ear and no doing; image and restore are BAD ahead of STATE. */
    private static void badWithoutAHouse() {
        badWithoutAHouse("go", clock -> clock.go(0, 0));
        badWithoutAHouse("hush", clock -> clock.hush(0, 0));
        badWithoutAHouse("ear", clock -> clock.ear(0, 0));
        badWithoutAHouse("done", clock -> clock.done(0));
        badWithoutAHouse("latest", clock -> clock.latest(0));
        badWithoutAHouse("heed", clock -> clock.heed(0, 0, 0, 1));
        badWithoutAHouse("heed by a missing row", clock -> clock.heed(0, 1, 0, 1));
        badWithoutAHouse("older", clock -> clock.older(0, 1, 0));
        badWithoutAHouse("kind", clock -> clock.kind(0));
        badWithoutAHouse("as", clock -> clock.as(0, 0));
        badWithoutAHouse("ask", clock -> clock.ask(0, 0));
        badWithoutAHouse("image 2", clock -> clock.image(2));
        badWithoutAHouse("image -1", clock -> clock.image(-1));
        badWithoutAHouse("restore 2", clock -> clock.restore(2));
        badWithoutAHouse("restore -1", clock -> clock.restore(-1));
    }

    /** QUARTER 999 is the last that is reached, and not a part of the quarters that go beyond it. */
    private static void full() {
        Scene late = () -> {
            HeedClock clock = midst();
            for (int i = 0; i < 49; i++) {
                clock.quarters(20);
            }
            return clock;
        };
        checks.due("quarter 983", late.make().count(3), 983);
        for (int n = 1; n <= 16; n++) {
            HeedClock clock = late.make();
            checks.due("quarters " + n + " to " + (983 + n), clock.quarters(n) == clock.clock(0) ? 1 : 0, 1);
            checks.due("quarter " + (983 + n), clock.count(3), 983 + n);
        }
        for (int n = 17; n <= 20; n++) {
            int more = n;
            refused(late, "quarters " + n, FULL, STATUS_AHEAD, clock -> clock.quarters(more));
        }
        Scene last = () -> {
            HeedClock clock = late.make();
            clock.quarters(16);
            return clock;
        };
        checks.due("quarter 999", last.make().count(3), 999);
        refused(last, "quarters 1 from 999 on", FULL, STATUS_AHEAD, clock -> clock.quarters(1));
        refused(last, "quarters 20 from 999 on", FULL, STATUS_AHEAD, clock -> clock.quarters(20));
        refused(last, "BAD ahead of FULL", BAD, STATUS_AHEAD, clock -> clock.quarters(21));
        refused(last, "BAD ahead of FULL", BAD, STATUS_AHEAD, clock -> clock.quarters(0));
        Scene fullTape = () -> {
            HeedClock clock = Houses.of("c1;p9,0,0,8;");
            Houses.feed(clock, "c5;" + "p1,1,1,1;".repeat(6) + "x0,1,0;".repeat(4) + "7".repeat(35));
            return clock;
        };
        checks.due("the tape is full", fullTape.make().count(7), 120);
        refused(fullTape, "feed of byte 121", FULL, 0, clock -> clock.feed('c'));
        refused(fullTape, "feed of -1 to a full tape", BAD, 0, clock -> clock.feed(-1));
        refused(fullTape, "feed of 256 to a full tape", BAD, 0, clock -> clock.feed(256));
    }

    private static void found(String name, int due, Call call) {
        refused(RefusalsTest::midst, name, due, -1000010 - due, call);
    }

    private static void findings() {
        found("row of -1 in place of one", SIZE, clock -> clock.row(0, 2, -1));
        found("row of -1 where none is", SIZE, clock -> clock.row(7, 0, -1));
        found("set in a missing row", NULL, clock -> clock.set(7, 0, 1));
        found("set at 3 of 3", PLACE, clock -> clock.set(0, 3, 1));
        found("set at -1", PLACE, clock -> clock.set(0, -1, 1));
        found("set at 0 of none", PLACE, clock -> clock.set(3, 0, 1));
        found("copy of a missing row", NULL, clock -> clock.copy(7, 0, 0, 0, 1));
        found("copy to a missing row", NULL, clock -> clock.copy(0, 0, 7, 0, 1));
        found("copy of two lanes", STORE, clock -> clock.copy(0, 0, 1, 0, 2));
        found("copy of two lanes, none", STORE, clock -> clock.copy(0, 0, 2, 0, 0));
        found("copy beyond the end of b: not a part of it comes", PLACE, clock -> clock.copy(0, 0, 0, 1, 3));
        found("copy beyond the end of a: not a part of it comes", PLACE, clock -> clock.copy(2, 2, 2, 0, 2));
        found("copy from -1", PLACE, clock -> clock.copy(0, -1, 0, 0, 2));
        found("copy to -1", PLACE, clock -> clock.copy(0, 0, 0, -1, 2));
        found("copy of -1", PLACE, clock -> clock.copy(0, 1, 0, 1, -1));
        found("drop of a missing row", NULL, clock -> clock.drop(7));
        found("who by a missing row", NULL, clock -> clock.who(7, 0, 1, 0));
        found("who beyond the end", PLACE, clock -> clock.who(0, 2, 2, 0));
        found("who from -1", PLACE, clock -> clock.who(0, -1, 2, 1));
        found("heed by a missing row", NULL, clock -> clock.heed(0, 7, 0, 1));
        found("heed beyond the end", PLACE, clock -> clock.heed(0, 0, 2, 2));
        found("heed from -1", PLACE, clock -> clock.heed(0, 0, -1, 2));
        found("a person as a thief", KIND, clock -> clock.as(0, 3));
        found("a cat as a person", KIND, clock -> clock.as(3, 1));
        found("a cat as a deaf one", KIND, clock -> clock.as(3, 5));
    }

    /** A fault leaves the house, its acts and images; the tape is empty, and fault() is told anew. */
    private static void faults() {
        String[] texts = {"", "c13;", "c1;p0,", "c2;p1,1,1,1;d2,2,2,2;x1,1,1;x2,2,0;q",
            "c9;" + "k1,0,0,1;".repeat(7), "c9;" + "x0,1,0;".repeat(5)};
        int[] places = {0, 1, 4, 35, 57, 31};
        int[] numbers = {1, 2, 2, 1, 3, 3};
        for (int i = 0; i < texts.length; i++) {
            HeedClock clock = emptied();
            String name = "house of " + texts[i];
            checks.due(name, Houses.read(clock, texts[i]), -1000100 - places[i]);
            checks.due("fault of " + name, clock.fault(), numbers[i]);
            List<String> changed = difference(Seen.of(clock), Seen.of(emptied()), STATUS_AHEAD);
            changed.removeIf(line -> line.startsWith("fault "));
            checks.holds(name + " changed " + changed, changed.isEmpty());
        }
    }

    /** In the midst of it, but with nothing on the tape. */
    private static HeedClock emptied() {
        HeedClock clock = new HeedClock();
        Houses.read(clock, Houses.ALL_SORTS);
        clock.row(1, 1, 3);
        clock.quarters(2);
        clock.image(1);
        clock.hush(1, 1);
        clock.go(5, 0);
        clock.wool(2);
        clock.ask(3, 1);
        clock.as(0, 2);
        return clock;
    }

    private static void unchanged(String name, Call call) {
        HeedClock asked = midst();
        boolean isWithRow = call.of(asked) >= 0 && (name.startsWith("who") || name.startsWith("heed"));
        List<String> changed = difference(Seen.of(asked), Seen.of(midst()), isWithRow ? 0 : STATUS_AHEAD);
        checks.holds(name + " changed " + changed, changed.isEmpty());
    }

    private static void whatIsForetoldChangesNothing() {
        unchanged("ahead", clock -> clock.ahead(99));
        unchanged("whenShows", clock -> clock.whenShows(30));
        unchanged("done", clock -> clock.done(2));
        unchanged("late", clock -> clock.late());
        unchanged("latest", clock -> clock.latest(2));
        unchanged("toHush", clock -> clock.toHush(5, 20, 1));
        unchanged("toCall", clock -> clock.toCall(5, 20, 1));
        unchanged("who", clock -> clock.who(0, 0, 3, 0));
        unchanged("heed", clock -> clock.heed(0, 0, 0, 3));
        unchanged("older", clock -> clock.older(0, 5, 99));
        unchanged("odds", clock -> clock.odds(9, 5, 0));
        unchanged("ear", clock -> clock.ear(0, 4));
        unchanged("clock", clock -> clock.clock(2));
        unchanged("kind", clock -> clock.kind(0));
        unchanged("trace", clock -> clock.trace(0));
        unchanged("count", clock -> clock.count(0));
        unchanged("status", clock -> clock.status());
        unchanged("fault", clock -> clock.fault());
    }

    /** BAD, STATE, FULL, then findings; of several findings the first in time. */
    private static void theFirstThatFits() {
        bad("row: BAD ahead of SIZE, row", clock -> clock.row(8, 0, -1));
        bad("row: BAD ahead of SIZE, lane", clock -> clock.row(0, 3, -1));
        bad("copy: BAD ahead of NULL", clock -> clock.copy(7, 0, 8, 0, 1));
        bad("copy: BAD ahead of STORE", clock -> clock.copy(-1, 0, 1, 0, 1));
        found("copy: NULL ahead of PLACE", NULL, clock -> clock.copy(0, -1, 7, -1, -1));
        found("copy: NULL ahead of PLACE, a", NULL, clock -> clock.copy(7, -1, 0, 9, 9));
        found("copy: STORE ahead of PLACE", STORE, clock -> clock.copy(0, -1, 1, 9, -1));
        found("set: NULL ahead of PLACE", NULL, clock -> clock.set(7, -1, 0));
        bad("who: BAD ahead of NULL", clock -> clock.who(7, 0, 17, 0));
        bad("who: BAD ahead of PLACE", clock -> clock.who(0, -1, 1, 2));
        found("who: NULL ahead of PLACE", NULL, clock -> clock.who(7, -1, 16, 0));
        bad("heed: BAD ahead of NULL", clock -> clock.heed(0, 7, 0, 17));
        bad("heed: BAD ahead of PLACE", clock -> clock.heed(6, 0, -1, 1));
        found("heed: NULL ahead of PLACE", NULL, clock -> clock.heed(0, 7, -1, 16));
        bad("go: BAD ahead of STATE", clock -> clock.go(0, 4));
        bad("as: BAD ahead of KIND", clock -> clock.as(6, 2));
        bad("as: BAD ahead of KIND, kind", clock -> clock.as(0, 7));
    }
}
