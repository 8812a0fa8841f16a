import java.util.function.Supplier;

/**
 * Each number that a call takes, at both of its ends: the last value that is taken and the first that is not. Every
 * value between is taken, too. What the calls answer within their bounds is told in the other tests.
 */
public final class BoundsTest {
    private static final int BAD = Houses.BAD, STATE = Houses.STATE, FULL = Houses.FULL;
    private static final int NULL = Houses.NULL, PLACE = Houses.PLACE, SIZE = Houses.SIZE;
    private static final int FAR = Integer.MAX_VALUE, LOW = Integer.MIN_VALUE;
    private static final Checks checks = new Checks("bounds");

    private interface CallWith {
        int of(HeedClock clock, int number);
    }

    public static void main(String[] args) {
        promises2To5Rows();
        promise2Items();
        promise3Places();
        promise4Places();
        promises6To8Tape();
        promises9To12Acts();
        promises14And15Seen();
        promises16To20Foretold();
        promises21And22Goals();
        promises23And24ByRows();
        promise23Places();
        promise24Places();
        promises25And26OlderAndOdds();
        promises27And28Images();
        promises29To33Asked();
        fewEarsAndDoings();
        checks.end();
    }

    /** A house of six ears and four doings, eight rows of 16 items. */
    private static HeedClock full() {
        HeedClock clock = Houses.of("c1;" + "p9,0,0,8;".repeat(6) + "x0,3,5;".repeat(4));
        for (int row = 0; row < 8; row++) {
            clock.row(row, 2, 16);
        }
        return clock;
    }

    private static boolean isTaken(int answer) {
        return answer != BAD && answer != STATE && answer != FULL && (answer < Houses.STORE || answer > NULL);
    }

    /** BAD below the least and above the most, and taken from the one to the other, by a new clock each. */
    private static void within(String what, int least, int most, CallWith call) {
        Supplier<HeedClock> clocks = BoundsTest::full;
        int[] beyond = {least - 1, most + 1, LOW, FAR};
        for (int number : beyond) {
            checks.due(what + " of " + number, call.of(clocks.get(), number), BAD);
        }
        for (int number = least; number <= most; number++) {
            int answer = call.of(clocks.get(), number);
            checks.holds(what + " of " + number + " answered " + answer, isTaken(answer));
        }
    }

    private static void promises2To5Rows() {
        within("row, ROW", 0, 7, (clock, row) -> clock.row(row, 0, 1));
        within("row, LANE", 0, 2, (clock, lane) -> clock.row(0, lane, 1));
        within("set, ROW", 0, 7, (clock, row) -> clock.set(row, 0, 1));
        within("copy, ROW a", 0, 7, (clock, row) -> clock.copy(row, 0, 0, 0, 1));
        within("copy, ROW b", 0, 7, (clock, row) -> clock.copy(0, 0, row, 0, 1));
        within("drop, ROW", 0, 7, (clock, row) -> clock.drop(row));
    }

    private static void promise2Items() {
        for (int lane = 0; lane <= 2; lane++) {
            for (int n = 0; n <= 40; n++) {
                HeedClock clock = new HeedClock();
                checks.due("row of " + n, clock.row(0, lane, n), n);
                checks.due("count of rows", clock.count(0), 1);
                checks.due("drop of " + n, clock.drop(0), n);
            }
            HeedClock clock = new HeedClock();
            checks.due("41", clock.row(0, lane, 41), BAD);
            checks.due("very many", clock.row(0, lane, FAR), BAD);
            checks.due("fewer than none", clock.row(0, lane, -1), SIZE);
            checks.due("least of all", clock.row(0, lane, LOW), SIZE);
            checks.due("none was made", clock.count(0), 0);
        }
    }

    private static void promise3Places() {
        for (int n = 0; n <= 40; n++) {
            HeedClock clock = new HeedClock();
            clock.row(7, 0, n);
            for (int i = 0; i < n; i++) {
                checks.due("place " + i + " of " + n, clock.set(7, i, i), i);
            }
            checks.due("place " + n + " of " + n, clock.set(7, n, 1), PLACE);
            checks.due("place -1 of " + n, clock.set(7, -1, 1), PLACE);
            checks.due("far place of " + n, clock.set(7, FAR, 1), PLACE);
            checks.due("low place of " + n, clock.set(7, LOW, 1), PLACE);
        }
    }

    /** Rows of 40 and of 3: the last places that are there, and the first beyond each end. */
    private static void promise4Places() {
        HeedClock clock = new HeedClock();
        clock.row(0, 1, 40);
        clock.row(1, 1, 3);
        clock.row(2, 1, 0);
        checks.due("all 40 onto themselves", clock.copy(0, 0, 0, 0, 40), 40);
        checks.due("41", clock.copy(0, 0, 0, 0, 41), PLACE);
        checks.due("the last of a", clock.copy(0, 39, 1, 0, 1), 1);
        checks.due("behind the last of a", clock.copy(0, 40, 1, 0, 1), PLACE);
        checks.due("none behind the last of a", clock.copy(0, 40, 1, 0, 0), 0);
        checks.due("none beyond the end of a", clock.copy(0, 41, 1, 0, 0), PLACE);
        checks.due("the last of b", clock.copy(0, 0, 1, 2, 1), 1);
        checks.due("behind the last of b", clock.copy(0, 0, 1, 3, 1), PLACE);
        checks.due("none behind the last of b", clock.copy(0, 0, 1, 3, 0), 0);
        checks.due("none beyond the end of b", clock.copy(0, 0, 1, 4, 0), PLACE);
        checks.due("as many as b has", clock.copy(0, 37, 1, 0, 3), 3);
        checks.due("one more than b has", clock.copy(0, 36, 1, 0, 4), PLACE);
        checks.due("as many as a has", clock.copy(1, 0, 0, 37, 3), 3);
        checks.due("one more than a has", clock.copy(1, 0, 0, 36, 4), PLACE);
        checks.due("none of none", clock.copy(2, 0, 2, 0, 0), 0);
        checks.due("one of none", clock.copy(2, 0, 0, 0, 1), PLACE);
        checks.due("one to none", clock.copy(0, 0, 2, 0, 1), PLACE);
        checks.due("i -1", clock.copy(0, -1, 1, 0, 1), PLACE);
        checks.due("i -1, none", clock.copy(0, -1, 1, 0, 0), PLACE);
        checks.due("j -1", clock.copy(0, 0, 1, -1, 1), PLACE);
        checks.due("j -1, none", clock.copy(0, 0, 1, -1, 0), PLACE);
        checks.due("n -1", clock.copy(0, 1, 1, 1, -1), PLACE);
        int[] odd = {FAR, LOW, FAR - 1, LOW + 1};
        for (int number : odd) {
            checks.due("i " + number, clock.copy(0, number, 1, 0, 1), PLACE);
            checks.due("j " + number, clock.copy(0, 0, 1, number, 1), PLACE);
            checks.due("n " + number, clock.copy(0, 1, 1, 1, number), PLACE);
            checks.due("all " + number, clock.copy(0, number, 1, number, number), PLACE);
        }
    }

    private static void promises6To8Tape() {
        within("feed", 0, 255, (clock, letter) -> clock.feed(letter));
    }

    private static void promises9To12Acts() {
        within("quarters", 1, 20, (clock, n) -> clock.quarters(n));
        within("go, EAR", 0, 5, (clock, ear) -> clock.go(ear, 1));
        within("hush, EAR", 0, 5, (clock, ear) -> clock.hush(ear, 1));
        within("wool", 0, 12, (clock, n) -> clock.wool(n));
        int[] noRooms = {-1, 4, LOW, FAR};
        for (int room : noRooms) {
            checks.due("go to " + room, full().go(0, room), BAD);
        }
        for (int room = 1; room <= 3; room++) {
            checks.due("go to " + room, full().go(0, room), 0);
        }
        checks.due("go to 0, being there", full().go(0, 0), STATE);
        int[] neither = {-1, 2, LOW, FAR};
        for (int is : neither) {
            checks.due("hush " + is, full().hush(0, is), BAD);
        }
        checks.due("hush 1", full().hush(0, 1), 1);
        checks.due("hush 0, not being so", full().hush(0, 0), STATE);
    }

    private static void promises14And15Seen() {
        within("ear, EAR", 0, 5, (clock, ear) -> clock.ear(ear, 0));
        within("ear, what", 0, 5, (clock, what) -> clock.ear(0, what));
        within("clock", 0, 3, (clock, what) -> clock.clock(what));
    }

    /** NONE is taken, too: it stands above the refusals. */
    private static void promises16To20Foretold() {
        within("ahead", 0, 99, (clock, n) -> clock.ahead(n));
        within("whenShows", 0, 999, (clock, v) -> clock.whenShows(v));
        within("done", 0, 3, (clock, doing) -> clock.done(doing));
        within("latest", 0, 3, (clock, doing) -> clock.latest(doing));
    }

    private static void promises21And22Goals() {
        within("toHush, v", 0, 999, (clock, v) -> clock.toHush(v, 1, 0));
        within("toHush, n", 0, 99, (clock, n) -> clock.toHush(0, n, 1));
        within("toHush, what", 0, 1, (clock, what) -> clock.toHush(0, 9, what));
        within("toCall, v", 0, 999, (clock, v) -> clock.toCall(v, 1, 0));
        within("toCall, n", 0, 99, (clock, n) -> clock.toCall(0, n, 1));
        within("toCall, what", 0, 1, (clock, what) -> clock.toCall(0, 9, what));
    }

    private static void promises23And24ByRows() {
        within("who, ROW", 0, 7, (clock, row) -> clock.who(row, 0, 1, 0));
        within("who, n", 1, 16, (clock, n) -> clock.who(0, 0, n, 0));
        within("who, what", 0, 1, (clock, what) -> clock.who(0, 0, 1, what));
        within("heed, EAR", 0, 5, (clock, ear) -> clock.heed(ear, 0, 0, 1));
        within("heed, ROW", 0, 7, (clock, row) -> clock.heed(0, row, 0, 1));
        within("heed, n", 1, 16, (clock, n) -> clock.heed(0, 0, 0, n));
    }

    private static void promise23Places() {
        HeedClock clock = Houses.of("c0;");
        clock.row(0, 0, 40);
        clock.row(1, 0, 16);
        clock.row(2, 0, 0);
        checks.due("the last 16", clock.who(0, 24, 16, 0), 1);
        checks.due("one too far", clock.who(0, 25, 16, 0), PLACE);
        checks.due("the last one", clock.who(0, 39, 1, 0), 1);
        checks.due("behind the last", clock.who(0, 40, 1, 0), PLACE);
        checks.due("all of 16", clock.who(1, 0, 16, 0), 1);
        checks.due("from 1 on", clock.who(1, 1, 16, 0), PLACE);
        checks.due("from -1 on", clock.who(1, -1, 16, 0), PLACE);
        checks.due("from -1 on, one", clock.who(1, -1, 1, 0), PLACE);
        checks.due("of none", clock.who(2, 0, 1, 0), PLACE);
        checks.due("far", clock.who(0, FAR, 1, 0), PLACE);
        checks.due("far, many", clock.who(0, FAR, 16, 0), PLACE);
        checks.due("low", clock.who(0, LOW, 16, 0), PLACE);
    }

    private static void promise24Places() {
        HeedClock clock = Houses.of("c0;d1,0,0,8;");
        clock.row(0, 0, 40);
        clock.row(1, 0, 16);
        clock.row(2, 0, 0);
        checks.due("the last 16", clock.heed(0, 0, 24, 16), 0xfff);
        checks.due("one too far", clock.heed(0, 0, 25, 16), PLACE);
        checks.due("the last one", clock.heed(0, 0, 39, 1), 0xfff);
        checks.due("behind the last", clock.heed(0, 0, 40, 1), PLACE);
        checks.due("all of 16", clock.heed(0, 1, 0, 16), 0xfff);
        checks.due("from 1 on", clock.heed(0, 1, 1, 16), PLACE);
        checks.due("from -1 on", clock.heed(0, 1, -1, 16), PLACE);
        checks.due("from -1 on, one", clock.heed(0, 1, -1, 1), PLACE);
        checks.due("of none", clock.heed(0, 2, 0, 1), PLACE);
        checks.due("far", clock.heed(0, 0, FAR, 1), PLACE);
        checks.due("far, many", clock.heed(0, 0, FAR, 16), PLACE);
        checks.due("low", clock.heed(0, 0, LOW, 16), PLACE);
    }

    private static void promises25And26OlderAndOdds() {
        within("older, EAR", 0, 4, (clock, ear) -> clock.older(ear, 5, 1));
        checks.due("older, EAR 5", full().older(5, 0, 1), 0);
        checks.due("older, EAR 6", full().older(6, 0, 1), BAD);
        within("older, the other", 1, 5, (clock, other) -> clock.older(0, other, 1));
        checks.due("older, the other 0", full().older(5, 0, 1), 0);
        checks.due("older, the other -1", full().older(5, -1, 1), BAD);
        within("older, n", 0, 99, (clock, n) -> clock.older(0, 1, n));
        for (int ear = 0; ear <= 5; ear++) {
            checks.due("alike " + ear, full().older(ear, ear, 1), BAD);
        }
        within("odds, PARTS", 0, 99, (clock, parts) -> clock.odds(parts, 5, 0));
        within("odds, c", 0, 10, (clock, c) -> clock.odds(1, c, 0));
        within("odds, what", 0, 1, (clock, what) -> clock.odds(1, 5, what));
    }

    private static void promises27And28Images() {
        within("image", 0, 1, (clock, k) -> clock.image(k));
        within("restore", 0, 1, (clock, k) -> {
            clock.image(0);
            clock.image(1);
            return clock.restore(k);
        });
    }

    private static void promises29To33Asked() {
        within("kind", 0, 5, (clock, ear) -> clock.kind(ear));
        within("as, EAR", 0, 5, (clock, ear) -> clock.as(ear, 0));
        within("ask, EAR", 0, 5, (clock, ear) -> clock.ask(ear, 0));
        within("ask, what", 0, 1, (clock, what) -> clock.ask(0, what));
        within("count", 0, 7, (clock, what) -> clock.count(what));
        int[] noKinds = {-1, 6, LOW, FAR};
        for (int kind : noKinds) {
            checks.due("as " + kind, full().as(0, kind), BAD);
        }
        for (int kind = 0; kind <= 5; kind++) {
            checks.due("as " + kind, full().as(0, kind), kind <= 1 ? 0 : Houses.KIND);
        }
    }

    /** There is no such ear, no such doing: told by how many there are, not by how many there could be. */
    private static void fewEarsAndDoings() {
        String ear = "p9,0,0,8;";
        String doing = "x0,3,5;";
        for (int many = 0; many <= 6; many++) {
            HeedClock clock = Houses.of("c0;" + ear.repeat(many));
            clock.row(0, 0, 1);
            for (int i = -1; i <= 6; i++) {
                boolean is = i >= 0 && i < many;
                String call = " of " + i + ", there being " + many;
                checks.due("kind" + call, clock.kind(i), is ? 1 : BAD);
                checks.due("ear" + call, clock.ear(i, 0), is ? 9 : BAD);
                checks.due("go" + call, clock.go(i, 1), is ? 0 : BAD);
                checks.due("as" + call, clock.as(i, 0), is ? i : BAD);
                checks.due("ask" + call, clock.ask(i, 1), is ? i : BAD);
                checks.due("heed" + call, clock.heed(i, 0, 0, 1) == BAD ? BAD : 1, is ? 1 : BAD);
                checks.due("older" + call, clock.older(i, i == 0 ? 1 : 0, 0), is && many > 1 ? 0 : BAD);
                checks.due("older, the other" + call, clock.older(i == 0 ? 1 : 0, i, 0), is && many > 1 ? 0 : BAD);
            }
            int hushed = 0;
            for (int i = -1; i <= 6; i++) {
                boolean is = i >= 0 && i < many;
                hushed += is ? 1 : 0;
                checks.due("hush of " + i + ", there being " + many, clock.hush(i, 1), is ? hushed : BAD);
            }
        }
        for (int many = 0; many <= 4; many++) {
            HeedClock clock = Houses.of("c0;p12,0,0,8;" + doing.repeat(many));
            for (int i = -1; i <= 4; i++) {
                boolean is = i >= 0 && i < many;
                checks.due("done of " + i + ", there being " + many, clock.done(i), is ? 3 : BAD);
                checks.due("latest of " + i + ", there being " + many, clock.latest(i), is ? 2 : BAD);
            }
            checks.due("none is late of " + many, clock.late(), 0);
        }
    }
}
