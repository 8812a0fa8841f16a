/** Promises 16 to 28: what is foretold, and images. */
public final class ForetoldTest {
    private static final int NONE = Houses.NONE, BAD = Houses.BAD, STATE = Houses.STATE;
    private static final int NULL = Houses.NULL, PLACE = Houses.PLACE;
    private static final int FAR = Integer.MAX_VALUE, LOW = Integer.MIN_VALUE;
    private static final Checks checks = new Checks("foretold");

    public static void main(String[] args) {
        promise16Ahead();
        promise17WhenShows();
        promise18Done();
        promise18DoneInThePast();
        promise19Late();
        promise20Latest();
        promise21ToHush();
        promise21ToHushWidowers();
        promise22ToCall();
        promise23Who();
        promise23WhoRefused();
        promise24Heed();
        promise24HeedRefused();
        promise25Older();
        promise26Odds();
        promise26OddsRefused();
        promise27Image();
        promise28Restore();
        promise28RestoreBringsAllNumbersBack();
        nothingChanges();
        checks.end();
    }

    private static void promise16Ahead() {
        checks.due("STATE ahead of BAD", new HeedClock().ahead(100), STATE);
        HeedClock clock = Houses.of(Houses.ALL_SORTS);
        checks.due("-1", clock.ahead(-1), BAD);
        checks.due("100", clock.ahead(100), BAD);
        int[] parts = {0, 17, 31, 48, 65, 82, 99, 116, 133, 150};
        for (int n = 0; n < parts.length; n++) {
            checks.due("ahead " + n, clock.ahead(n), parts[n]);
        }
        checks.due("99", clock.ahead(99), 1644);
        clock.quarters(3);
        checks.due("from now on", clock.ahead(5), 133);
        clock.go(0, 2);
        checks.due("nobody else goes anywhere: w6 and t3", clock.ahead(1), 57);
        for (int n = 0; n <= 20; n++) {
            int foretold = clock.ahead(n);
            HeedClock other = Houses.of(Houses.ALL_SORTS);
            other.quarters(3);
            other.go(0, 2);
            checks.due("as it comes, " + n, foretold, n == 0 ? 48 : other.quarters(n));
        }
    }

    private static void promise17WhenShows() {
        checks.due("STATE ahead of BAD", new HeedClock().whenShows(-1), STATE);
        HeedClock clock = Houses.of("c0;p6,0,0,8;");
        checks.due("-1", clock.whenShows(-1), BAD);
        checks.due("1000", clock.whenShows(1000), BAD);
        checks.due("0 now", clock.whenShows(0), 0);
        checks.due("1 behind 2", clock.whenShows(1), 2);
        checks.due("49 behind 98", clock.whenShows(49), 98);
        checks.due("50 not till 99", clock.whenShows(50), NONE);
        checks.due("999", clock.whenShows(999), NONE);
        clock.quarters(1);
        checks.due("50 behind 99", clock.whenShows(50), 99);
        clock.quarters(5);
        checks.due("3 now", clock.whenShows(3), 0);
        checks.due("2, or more, now", clock.whenShows(2), 0);
        checks.due("a house of nobody", Houses.of("c0;").whenShows(1), NONE);
        HeedClock seldom = Houses.of("c0;p12,0,6,1;");
        seldom.quarters(4);
        checks.due("quarter 6 is behind 3", seldom.whenShows(1), 3);
        checks.due("quarter 14 is behind 11", seldom.whenShows(2), 11);
    }

    private static void promise18Done() {
        HeedClock clock = Houses.of(Houses.ALL_SORTS);
        checks.due("doing -1", clock.done(-1), BAD);
        checks.due("doing 3 of 3", clock.done(3), BAD);
        checks.due("no house", new HeedClock().done(0), BAD);
        checks.due("36 from quarter 0", clock.done(0), 3);
        checks.due("120 from quarter 2", clock.done(1), 10);
        checks.due("48 from quarter 50", clock.done(2), 53);
        HeedClock exact = Houses.of("c0;p12,0,0,8;x0,1,0;x0,40,99;x98,1,99;x99,1,99;");
        checks.due("12 at once", exact.done(0), 1);
        checks.due("480", exact.done(1), 40);
        checks.due("on 99", exact.done(2), 99);
        checks.due("not till 99", exact.done(3), NONE);
        exact.quarters(1);
        checks.due("99 from now is 100", exact.done(3), 100);
        checks.due("nobody listens", Houses.of("c0;x0,1,99;").done(0), NONE);
    }

    private static void promise18DoneInThePast() {
        HeedClock clock = Houses.of("c0;p12,0,0,8;x0,2,50;x3,2,50;x4,3,50;x9,1,50;");
        clock.quarters(4);
        clock.hush(0, 1);
        clock.quarters(6);
        checks.due("long over", clock.done(0), 2);
        checks.due("12 till 4, then nothing: not yet", clock.done(1), NONE);
        checks.due("began as nobody listened", clock.done(2), NONE);
        clock.hush(0, 0);
        checks.due("12 more behind 11", clock.done(1), 11);
        checks.due("36 more behind 13", clock.done(2), 13);
        checks.due("12 more behind 11, too", clock.done(3), 11);
        clock.wool(6);
        checks.due("6 each: behind 12", clock.done(1), 12);
        clock.undo();
        clock.quarters(3);
        checks.due("done meanwhile", clock.done(2), 13);
        clock.undo();
        clock.wool(12);
        checks.due("undone, and nothing more", clock.done(2), NONE);
    }

    private static void promise19Late() {
        checks.due("no house", new HeedClock().late(), STATE);
        HeedClock clock = Houses.of(Houses.ALL_SORTS);
        checks.due("the last", clock.late(), 4);
        clock.hush(0, 1);
        checks.due("9, 6, 9, 9, 9 is 42 by 5; 152 from 2 to 20", clock.late(), 4);
        clock.hush(1, 1);
        checks.due("none gives enough", clock.late(), 7);
        HeedClock exact = Houses.of("c0;p12,0,0,8;x0,3,3;x0,3,2;x99,1,99;x5,1,3;");
        checks.due("by its due is in time", exact.late(), 2 + 4 + 8);
        exact.quarters(20);
        exact.hush(0, 1);
        checks.due("over is over", exact.late(), 2 + 4 + 8);
        checks.due("no doings", Houses.of("c0;").late(), 0);
    }

    private static void promise20Latest() {
        HeedClock clock = Houses.of(Houses.ALL_SORTS);
        checks.due("doing -1", clock.latest(-1), BAD);
        checks.due("doing 3 of 3", clock.latest(3), BAD);
        checks.due("no house", new HeedClock().latest(0), BAD);
        checks.due("36 by 5", clock.latest(0), 2);
        checks.due("120 by 20", clock.latest(1), 12);
        checks.due("48 by 40", clock.latest(2), 37);
        clock.quarters(2);
        checks.due("from now on: this one", clock.latest(0), 0);
        checks.due("from now on: 10", clock.latest(1), 10);
        clock.quarters(1);
        checks.due("too late", clock.latest(0), NONE);
        clock.quarters(20);
        checks.due("its due is over", clock.latest(0), NONE);
        HeedClock edge = Houses.of("c0;p12,0,0,8;x50,1,99;x99,1,10;x0,1,0;");
        checks.due("98", edge.latest(0), 98);
        checks.due("whenever it begins as told", edge.latest(1), 9);
        checks.due("due at once", edge.latest(2), NONE);
        HeedClock scant = Houses.of("c0;p11,0,0,8;x0,1,9;");
        checks.due("11 are not enough, 22 are", scant.latest(0), 7);
        HeedClock still = Houses.of("c0;p12,0,7,1;x0,1,20;");
        checks.due("the last quarter is 15", still.latest(0), 15);
    }

    private static void promise21ToHush() {
        checks.due("STATE ahead of BAD", new HeedClock().toHush(-1, 0, 0), STATE);
        HeedClock clock = Houses.of(Houses.ALL_SORTS);
        checks.due("v -1", clock.toHush(-1, 8, 0), BAD);
        checks.due("v 1000", clock.toHush(1000, 8, 0), BAD);
        checks.due("n -1", clock.toHush(0, -1, 0), BAD);
        checks.due("n 100", clock.toHush(0, 100, 0), BAD);
        checks.due("what -1", clock.toHush(0, 8, -1), BAD);
        checks.due("what 2", clock.toHush(0, 8, 2), BAD);
        checks.due("three for 0", clock.toHush(0, 8, 0), 3);
        checks.due("0 1 2", clock.toHush(0, 8, 1), 7);
        checks.due("11 is shown anyway", clock.toHush(11, 8, 0), 0);
        checks.due("none", clock.toHush(11, 8, 1), 0);
        checks.due("10 takes one", clock.toHush(10, 8, 0), 1);
        checks.due("the least that does", clock.toHush(10, 8, 1), 1);
        clock.hush(0, 1);
        checks.due("one is hushed: two more", clock.toHush(0, 8, 0), 2);
        checks.due("1 and 2", clock.toHush(0, 8, 1), 6);
        clock.hush(0, 0);
        clock.quarters(8);
        checks.due("it shows 11 by now", clock.toHush(10, 8, 0), NONE);
        checks.due("which, none", clock.toHush(10, 8, 1), NONE);
        checks.due("all that give", clock.toHush(11, 99, 0), 4);
        checks.due("0 1 2 3", clock.toHush(11, 99, 1), 15);
        checks.due("now", clock.toHush(11, 0, 0), 0);
        checks.due("not now", clock.toHush(10, 0, 0), NONE);
        checks.due("a house of nobody", Houses.of("c0;").toHush(0, 99, 0), 0);
        HeedClock fewer = Houses.of("c0;p3,0,0,8;p3,0,0,8;p6,0,0,8;");
        checks.due("one, though two others are told first", fewer.toHush(6, 12, 0), 1);
        checks.due("the third", fewer.toHush(6, 12, 1), 4);
    }

    /** To hush one of the others would let the widowers give again. */
    private static void promise21ToHushWidowers() {
        HeedClock clock = Houses.of("c0;p12,0,0,8;w12,0,0,8;w12,0,0,8;");
        checks.due("12 a quarter as it is", clock.toHush(2, 2, 0), 0);
        checks.due("all three for less", clock.toHush(1, 2, 0), 3);
        checks.due("all three", clock.toHush(1, 2, 1), 7);
    }

    private static void promise22ToCall() {
        checks.due("STATE ahead of BAD", new HeedClock().toCall(-1, 0, 0), STATE);
        HeedClock clock = Houses.of("c0;p1,0,0,8;p5,1,0,8;p6,2,0,8;p6,3,0,8;d9,1,0,8;");
        checks.due("v -1", clock.toCall(-1, 8, 0), BAD);
        checks.due("v 1000", clock.toCall(1000, 8, 0), BAD);
        checks.due("n -1", clock.toCall(0, -1, 0), BAD);
        checks.due("n 100", clock.toCall(0, 100, 0), BAD);
        checks.due("what -1", clock.toCall(0, 8, -1), BAD);
        checks.due("what 2", clock.toCall(0, 8, 2), BAD);
        checks.due("12 parts by itself", clock.toCall(1, 12, 0), 0);
        checks.due("nobody", clock.toCall(1, 12, 1), 0);
        checks.due("6 a quarter", clock.toCall(6, 12, 0), 1);
        checks.due("the least of three", clock.toCall(6, 12, 1), 2);
        checks.due("7 a quarter", clock.toCall(7, 12, 1), 4);
        checks.due("13 a quarter", clock.toCall(13, 12, 0), 2);
        checks.due("2 and 3", clock.toCall(13, 12, 1), 12);
        checks.due("18 a quarter", clock.toCall(18, 12, 1), 14);
        checks.due("more than all", clock.toCall(19, 12, 0), NONE);
        checks.due("which, none", clock.toCall(19, 12, 1), NONE);
        clock.hush(1, 1);
        checks.due("a hushed one that is called is not any more", clock.toCall(6, 12, 1), 2);
        clock.hush(0, 1);
        checks.due("those there stay as they are: hushed", clock.toCall(18, 12, 0), NONE);
        checks.due("17 of the others", clock.toCall(17, 12, 1), 14);
        checks.due("now", clock.toCall(0, 0, 0), 0);
        checks.due("not now", clock.toCall(1, 0, 0), NONE);
        HeedClock fewer = Houses.of("c0;p3,1,0,8;p3,1,0,8;p6,1,0,8;");
        checks.due("one, though two others are told first", fewer.toCall(6, 12, 0), 1);
        checks.due("the third", fewer.toCall(6, 12, 1), 4);
        HeedClock widowed = Houses.of("c0;w12,0,0,8;p12,1,0,8;p1,1,0,8;");
        checks.due("to call the first would bring nothing", widowed.toCall(13, 12, 1), 4);
    }

    private static void promise23Who() {
        HeedClock clock = Houses.of("c0;p1,0,0,1;p2,0,1,1;p3,0,2,1;p3,2,2,1;");
        Houses.row(clock, 0, 1, 2, 3, 0);
        checks.due("either of two", clock.who(0, 0, 3, 0), 2);
        checks.due("the least", clock.who(0, 0, 3, 1), 7);
        checks.due("1 alone: the others at will", clock.who(0, 0, 1, 0), 8);
        checks.due("the least", clock.who(0, 0, 1, 1), 1);
        checks.due("2 first: nobody", clock.who(0, 1, 1, 0), 0);
        checks.due("which, none", clock.who(0, 1, 1, 1), NONE);
        clock.hush(0, 1);
        clock.go(1, 3);
        checks.due("as if nobody were hushed or gone", clock.who(0, 0, 3, 1), 7);
        clock.quarters(1);
        checks.due("from this quarter on", clock.who(0, 1, 3, 0), 4);
        checks.due("without the first", clock.who(0, 1, 3, 1), 6);
        Houses.row(clock, 1, 0, 0, 0, 0, 0, 0, 0, 1, 0, 0, 0, 0, 0, 0, 0, 1);
        checks.due("16 of them, twice around", clock.who(1, 0, 16, 1), 1);
        clock.set(1, 15, 0);
        checks.due("the last one counts", clock.who(1, 0, 16, 0), 0);
        HeedClock nobody = Houses.of("c0;");
        Houses.row(nobody, 0, 0, 1);
        checks.due("the set of none", nobody.who(0, 0, 1, 0), 1);
        checks.due("is 0", nobody.who(0, 0, 1, 1), 0);
        checks.due("but not by 1", nobody.who(0, 0, 2, 0), 0);
        HeedClock six = Houses.of("c0;" + "d1,0,0,8;".repeat(6));
        Houses.row(six, 0, 0);
        checks.due("all 64", six.who(0, 0, 1, 0), 64);
        HeedClock full = Houses.of("c0;" + "p1,0,0,8;".repeat(6));
        Houses.row(full, 0, 6);
        checks.due("all six", full.who(0, 0, 1, 1), 63);
        checks.due("that alone", full.who(0, 0, 1, 0), 1);
    }

    private static void promise23WhoRefused() {
        checks.due("STATE ahead of BAD", new HeedClock().who(8, 0, 0, 2), STATE);
        HeedClock clock = Houses.of(Houses.ALL_SORTS);
        clock.row(0, 0, 20);
        checks.due("row -1", clock.who(-1, 0, 1, 0), BAD);
        checks.due("row 8", clock.who(8, 0, 1, 0), BAD);
        checks.due("n 0", clock.who(0, 0, 0, 0), BAD);
        checks.due("n 17", clock.who(0, 0, 17, 0), BAD);
        checks.due("what 2", clock.who(0, 0, 1, 2), BAD);
        checks.due("what -1", clock.who(0, 0, 1, -1), BAD);
        checks.due("BAD ahead of NULL", clock.who(1, 0, 17, 0), BAD);
        checks.due("missing", clock.who(1, 0, 1, 0), NULL);
        checks.due("status 1", clock.status(), 1);
        checks.due("i -1", clock.who(0, -1, 1, 0), PLACE);
        checks.due("status 2", clock.status(), 2);
        checks.due("beyond the end", clock.who(0, 5, 16, 0), PLACE);
        checks.due("i far", clock.who(0, FAR, 16, 0), PLACE);
        checks.due("i low", clock.who(0, LOW, 16, 0), PLACE);
        checks.due("n 0 leaves status", clock.who(0, 0, 0, 0), BAD);
        checks.due("status 2 yet", clock.status(), 2);
        checks.due("to the end", clock.who(0, 4, 16, 1), 0);
        checks.due("status 0", clock.status(), 0);
    }

    private static void promise24Heed() {
        HeedClock clock = Houses.of(Houses.ALL_SORTS);
        Houses.row(clock, 0, 14, 14, 17);
        checks.due("6, or 12 and no widower", clock.heed(0, 0, 0, 1), 1 << 5 | 1 << 11);
        checks.due("none for both", clock.heed(0, 0, 0, 2), 0);
        Houses.row(clock, 1, 17, 14, 17);
        checks.due("as it is", clock.heed(0, 1, 0, 3), 1 << 8);
        checks.due("the cat, 7 or more", clock.heed(3, 1, 0, 3), 0xfc0);
        checks.due("the deaf one, whatever", clock.heed(4, 1, 0, 3), 0xfff);
        checks.due("one in another room, whatever", clock.heed(5, 1, 0, 3), 0xfff);
        checks.due("the thief, 7 or 8", clock.heed(2, 1, 0, 3), 1 << 6 | 1 << 7);
        clock.wool(3);
        Houses.row(clock, 2, 6 + 4 + 3);
        checks.due("all else as it is, wool too", clock.heed(0, 2, 0, 1), 1 << 8);
        checks.due("heed is as it was", clock.ear(0, 0), 9);
        clock.hush(0, 1);
        checks.due("who is hushed, whatever: never", clock.heed(0, 2, 0, 1), 0);
    }

    private static void promise24HeedRefused() {
        checks.due("no house", new HeedClock().heed(0, 0, 0, 1), BAD);
        HeedClock clock = Houses.of(Houses.ALL_SORTS);
        clock.row(0, 1, 20);
        checks.due("ear -1", clock.heed(-1, 0, 0, 1), BAD);
        checks.due("ear 6", clock.heed(6, 0, 0, 1), BAD);
        checks.due("row -1", clock.heed(0, -1, 0, 1), BAD);
        checks.due("row 8", clock.heed(0, 8, 0, 1), BAD);
        checks.due("n 0", clock.heed(0, 0, 0, 0), BAD);
        checks.due("n 17", clock.heed(0, 0, 0, 17), BAD);
        checks.due("BAD ahead of NULL", clock.heed(6, 1, 0, 1), BAD);
        checks.due("missing", clock.heed(0, 1, 0, 1), NULL);
        checks.due("status 1", clock.status(), 1);
        checks.due("i -1", clock.heed(0, 0, -1, 1), PLACE);
        checks.due("beyond the end", clock.heed(0, 0, 19, 2), PLACE);
        checks.due("i far", clock.heed(0, 0, FAR, 2), PLACE);
        checks.due("status 2", clock.status(), 2);
        checks.due("to the end", clock.heed(0, 0, 18, 2), 0);
        checks.due("status 0", clock.status(), 0);
    }

    private static void promise25Older() {
        HeedClock clock = Houses.of(Houses.ALL_SORTS);
        checks.due("ear -1", clock.older(-1, 0, 1), BAD);
        checks.due("ear 6", clock.older(6, 0, 1), BAD);
        checks.due("other -1", clock.older(0, -1, 1), BAD);
        checks.due("other 6", clock.older(0, 6, 1), BAD);
        checks.due("alike", clock.older(3, 3, 1), BAD);
        checks.due("n -1", clock.older(0, 5, -1), BAD);
        checks.due("n 100", clock.older(0, 5, 100), BAD);
        checks.due("no house", new HeedClock().older(0, 1, 0), BAD);
        checks.due("now", clock.older(0, 5, 0), 0);
        checks.due("17 less 12", clock.older(0, 5, 1), 5);
        checks.due("12 less 17", clock.older(5, 0, 1), -5);
        checks.due("99", clock.older(0, 5, 99), 1644 - 99 * 12);
        checks.due("both by the clock", clock.older(0, 4, 50), 0);
        clock.quarters(1);
        clock.go(5, 0);
        clock.go(4, 3);
        checks.due("what was lived counts", clock.older(0, 5, 3), 5);
        checks.due("w6 p8 p3, then p8 p3 t3, p8 p3 t3", clock.older(0, 4, 3), 17 + 14 + 14 - 36);
    }

    private static void odds(HeedClock clock, int parts, int c, int above, int below) {
        checks.due("odds of " + parts + " by " + c + ", above", clock.odds(parts, c, 0), above);
        checks.due("odds of " + parts + " by " + c + ", below", clock.odds(parts, c, 1), below);
    }

    private static void promise26Odds() {
        HeedClock clock = Houses.of(Houses.ALL_SORTS);
        odds(clock, 0, 5, 1, 1);
        odds(clock, 17, 5, 1, 8);
        odds(clock, 1, 5, 7, 8);
        odds(clock, 15, 3, 343, 1000);
        odds(clock, 18, 5, 0, 1);
        odds(clock, 99, 0, 0, 1);
        odds(clock, 17, 0, 1, 1);
        odds(clock, 1, 10, 0, 1);
        odds(clock, 0, 10, 1, 1);
        clock.hush(1, 1);
        odds(clock, 9, 9, 1, 100);
        odds(clock, 12, 0, 0, 1);
        HeedClock widowed = Houses.of("c0;w6,0,0,8;p12,0,0,8;p1,1,0,8;");
        odds(widowed, 7, 4, 3, 5);
        odds(widowed, 6, 4, 21, 25);
        odds(widowed, 13, 0, 0, 1);
        HeedClock six = Houses.of("c0;" + "p1,0,0,8;".repeat(6));
        odds(six, 6, 1, 531441, 1000000);
        odds(six, 1, 1, 999999, 1000000);
        odds(six, 3, 5, 21, 32);
        odds(Houses.of("c0;"), 0, 3, 1, 1);
        odds(Houses.of("c0;"), 1, 3, 0, 1);
    }

    private static void promise26OddsRefused() {
        checks.due("STATE ahead of BAD", new HeedClock().odds(100, 11, 2), STATE);
        HeedClock clock = Houses.of(Houses.ALL_SORTS);
        checks.due("parts -1", clock.odds(-1, 5, 0), BAD);
        checks.due("parts 100", clock.odds(100, 5, 0), BAD);
        checks.due("c -1", clock.odds(1, -1, 0), BAD);
        checks.due("c 11", clock.odds(1, 11, 0), BAD);
        checks.due("what -1", clock.odds(1, 5, -1), BAD);
        checks.due("what 2", clock.odds(1, 5, 2), BAD);
    }

    private static void promise27Image() {
        HeedClock clock = new HeedClock();
        checks.due("BAD ahead of STATE", clock.image(2), BAD);
        checks.due("no house", clock.image(0), STATE);
        Houses.read(clock, Houses.ALL_SORTS);
        clock.quarters(2);
        checks.due("-1", clock.image(-1), BAD);
        checks.due("2", clock.image(2), BAD);
        checks.due("image 0", clock.image(0), 1);
        checks.due("acts stay", clock.count(6), 2);
        checks.due("only that one was kept", clock.restore(1), STATE);
        clock.quarters(1);
        checks.due("image 1", clock.image(1), 1);
        clock.quarters(1);
        checks.due("image 0 anew", clock.image(0), 1);
        clock.restore(1);
        checks.due("48", clock.clock(0), 48);
        clock.restore(0);
        checks.due("65", clock.clock(0), 65);
    }

    private static void promise28Restore() {
        HeedClock clock = Houses.of(Houses.ALL_SORTS);
        checks.due("-1", clock.restore(-1), BAD);
        checks.due("2", clock.restore(2), BAD);
        checks.due("none was kept", clock.restore(0), STATE);
        clock.quarters(4);
        clock.hush(2, 1);
        clock.go(5, 0);
        clock.wool(2);
        clock.image(1);
        int due = clock.done(1);
        Houses.read(clock, "c0;k1,0,0,8;");
        clock.quarters(20);
        checks.due("restored", clock.restore(1), 1);
        checks.due("no act can be undone", clock.undo(), STATE);
        checks.due("ears", clock.count(1), 6);
        checks.due("doings", clock.count(2), 3);
        checks.due("quarter", clock.count(3), 4);
        checks.due("hushed", clock.ear(2, 2), 1);
        checks.due("in room 0", clock.count(5), 6);
        checks.due("wool", clock.clock(3), 2);
        checks.due("parts", clock.clock(0), 65);
        checks.due("kind", clock.kind(1), 2);
        checks.due("heed", clock.ear(3, 0), 12);
        checks.due("lived by the sun", clock.ear(5, 5), 48);
        checks.due("the past, too: 36 behind 3", clock.done(0), 3);
        checks.due("and what is to come", clock.done(1), due);
        checks.due("the cat's quarters", clock.ear(3, 3), 0);
        clock.quarters(3);
        clock.wool(12);
        clock.go(0, 1);
        clock.restore(1);
        checks.due("the image is not touched by what comes", clock.clock(3), 2);
        checks.due("quarter 4 again", clock.count(3), 4);
        checks.due("room 0 again", clock.ear(0, 1), 0);
        checks.due("nothing to undo again", clock.count(6), 0);
    }

    private static void promise28RestoreBringsAllNumbersBack() {
        HeedClock clock = Houses.of("c0;p12,0,2,3;p6,1,0,8;x1,2,50;");
        clock.quarters(3);
        clock.image(0);
        int done = clock.done(0);
        int latest = clock.latest(0);
        Houses.read(clock, "c0;p12,0,6,1;p6,1,0,8;x9,9,9;");
        clock.quarters(9);
        clock.restore(0);
        checks.due("lived by the clock", clock.ear(0, 5), 12);
        checks.due("lived by the sun", clock.ear(1, 5), 36);
        checks.due("listens in 3", clock.ear(0, 3), 1);
        checks.due("in 2, 3, 4 of eight", clock.ahead(16), 12 + 6 * 12);
        checks.due("24 from 1 on", clock.done(0), 4);
        checks.due("done as before", done, 4);
        checks.due("24 by 50", clock.latest(0), latest);
        checks.due("43 and 44 are the last two", latest, 40);
        clock.quarters(1);
        clock.undo();
        checks.due("undone to the image", clock.clock(0), 12);
    }

    private static void nothingChanges() {
        HeedClock clock = Houses.of(Houses.ALL_SORTS);
        clock.quarters(3);
        Houses.row(clock, 0, 17, 17);
        long before = seen(clock);
        clock.ahead(99);
        clock.whenShows(999);
        clock.done(2);
        clock.late();
        clock.latest(2);
        clock.toHush(5, 8, 1);
        clock.toCall(30, 8, 1);
        clock.who(0, 0, 2, 1);
        clock.heed(0, 0, 0, 2);
        clock.older(0, 5, 99);
        clock.odds(5, 5, 0);
        clock.image(0);
        checks.due("all as it was", seen(clock), before);
    }

    private static long seen(HeedClock clock) {
        long seen = 0;
        for (int ear = 0; ear < 6; ear++) {
            for (int what = 0; what <= 5; what++) {
                seen = 31 * seen + clock.ear(ear, what);
            }
        }
        for (int what = 0; what <= 3; what++) {
            seen = 31 * seen + clock.clock(what);
        }
        for (int what = 0; what <= 7; what++) {
            seen = 31 * seen + clock.count(what);
        }
        return seen;
    }
}
