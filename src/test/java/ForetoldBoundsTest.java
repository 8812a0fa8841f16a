/** Promises 16 to 28 at their boundaries: what is foretold just in reach and just out of it, at both ends of time. */
public final class ForetoldBoundsTest {
    private static final int NONE = Houses.NONE, BAD = Houses.BAD, STATE = Houses.STATE;
    private static final Checks checks = new Checks("foretold bounds");

    public static void main(String[] args) {
        promise16AheadRoundByRound();
        promise16AheadBeyond999();
        promise17WhenShowsAtTheEnds();
        promise18DoneByOnePart();
        promise18DoneAt99FromNow();
        promise18DoneAsItBegan();
        promise19LateByOneQuarter();
        promise19LateOfEachDoing();
        promise20LatestAtTheEnds();
        promise20LatestByOnePart();
        promise21ToHushAtTheEnds();
        promise21ToHushTheLeastOfSeveral();
        promise22ToCallAtTheEnds();
        promise22ToCallTheLeastOfSeveral();
        promise23WhoByEachSet();
        promise23WhoByItemsNobodyGives();
        promise24HeedByEachHeed();
        promise24HeedOfWhoDoesNotListen();
        promise24HeedAcrossTheRound();
        promise25OlderAtTheEnds();
        promise26OddsAtTheEnds();
        promise26OddsInLowestTerms();
        promise26OddsOfWhoListens();
        promises27And28ImagesStandByThemselves();
        promise28RestoreAtTheLastQuarter();
        checks.end();
    }

    /** One quarter shows one more, so quarters and what is shown are the same number. */
    private static HeedClock oneByOne() {
        return Houses.of("c0;p12,0,0,8;");
    }

    private static void pass(HeedClock clock, int quarters) {
        for (int left = quarters; left > 0; left -= 20) {
            clock.quarters(Math.min(left, 20));
        }
    }

    private static void promise16AheadRoundByRound() {
        String text = "c1;p9,0,0,3;w7,0,2,8;t8,0,5,4;k12,0,6,3;d5,0,0,8;p5,0,7,2;";
        for (int start = 0; start <= 8; start++) {
            HeedClock clock = Houses.of(text);
            pass(clock, start);
            HeedClock other = Houses.of(text);
            pass(other, start);
            checks.due("none ahead is now", clock.ahead(0), clock.clock(0));
            for (int n = 1; n <= 99; n++) {
                checks.due("ahead " + n + " from " + start, clock.ahead(n), other.quarters(1));
            }
            checks.due("nothing went", clock.count(3), start);
        }
    }

    private static void promise16AheadBeyond999() {
        HeedClock clock = Houses.of("c0;p1,0,7,1;");
        pass(clock, 999);
        checks.due("quarter 999 is the seventh of its round", clock.ear(0, 3), 1);
        checks.due("124 rounds are over", clock.clock(0), 124);
        checks.due("one more", clock.ahead(1), 125);
        checks.due("the next round", clock.ahead(8), 125);
        checks.due("its seventh", clock.ahead(9), 126);
        checks.due("99", clock.ahead(99), 124 + 13);
        checks.due("100", clock.ahead(100), BAD);
    }

    private static void promise17WhenShowsAtTheEnds() {
        HeedClock clock = oneByOne();
        for (int v = 0; v <= 99; v++) {
            checks.due("shows " + v, clock.whenShows(v), v);
        }
        checks.due("shows 100 not till 99", clock.whenShows(100), NONE);
        pass(clock, 899);
        checks.due("998 behind 99", clock.whenShows(998), 99);
        checks.due("999 not till 99", clock.whenShows(999), NONE);
        checks.due("899 now", clock.whenShows(899), 0);
        checks.due("900 behind one", clock.whenShows(900), 1);
        clock.quarters(1);
        checks.due("999 behind 99", clock.whenShows(999), 99);
        pass(clock, 99);
        checks.due("999 now", clock.whenShows(999), 0);
        checks.due("1000", clock.whenShows(1000), BAD);
        checks.due("-1", clock.whenShows(-1), BAD);
        HeedClock eleven = Houses.of("c0;p11,0,0,8;");
        checks.due("11 parts are not 1 yet, 22 are", eleven.whenShows(1), 2);
        checks.due("0 is shown now", eleven.whenShows(0), 0);
        HeedClock still = Houses.of("c12;p12,0,0,8;");
        checks.due("it stands still: 0", still.whenShows(0), 0);
        checks.due("it stands still: 1", still.whenShows(1), NONE);
    }

    /** 480 parts less one are not enough for a doing that needs 40. */
    private static void promise18DoneByOnePart() {
        HeedClock clock = Houses.of("c0;p12,0,0,8;x0,40,99;");
        pass(clock, 39);
        checks.due("468 and 12", clock.done(0), 40);
        clock.wool(1);
        checks.due("468 and 11 is one too few", clock.done(0), 41);
        clock.quarters(1);
        checks.due("479 by now", clock.clock(0), 479);
        clock.wool(12);
        checks.due("and no more", clock.done(0), NONE);
        clock.wool(11);
        checks.due("one more part", clock.done(0), 41);
        HeedClock least = Houses.of("c0;p11,0,0,1;x0,1,99;");
        checks.due("11 in 0, 11 in 8", least.done(0), 9);
    }

    private static void promise18DoneAt99FromNow() {
        HeedClock clock = Houses.of("c0;p12,0,2,1;x0,13,99;x0,12,99;x99,1,99;");
        checks.due("quarter 98 is the thirteenth", clock.done(0), 99);
        checks.due("quarter 90 is the twelfth", clock.done(1), 91);
        checks.due("begins on 99", clock.done(2), NONE);
        pass(clock, 7);
        checks.due("106 is the first behind 99: 107 is 100 from 7", clock.done(2), NONE);
        clock.quarters(1);
        checks.due("107 is 99 from 8", clock.done(2), 107);
        HeedClock last = oneByOne();
        pass(last, 999);
        checks.due("no doing there", last.done(0), BAD);
    }

    /** With what the clock had gone by then: who listens now does not change what went. */
    private static void promise18DoneAsItBegan() {
        HeedClock clock = Houses.of("c0;p12,0,0,8;x2,3,99;x4,3,99;x5,3,99;x6,3,99;");
        pass(clock, 5);
        checks.due("began in 2, done on 5: just over", clock.done(0), 5);
        checks.due("began in 4", clock.done(1), 7);
        checks.due("begins now", clock.done(2), 8);
        checks.due("begins next", clock.done(3), 9);
        clock.hush(0, 1);
        checks.due("over is over", clock.done(0), 5);
        checks.due("12 of 36, and no more", clock.done(1), NONE);
        clock.quarters(3);
        clock.hush(0, 0);
        checks.due("12 of 36 by 8", clock.done(1), 10);
        checks.due("none of 36 by 8", clock.done(2), 11);
        checks.due("none of 36 by 8, either", clock.done(3), 11);
        for (int i = 0; i < 5; i++) {
            clock.undo();
        }
        checks.due("not hushed, in quarter 5", clock.done(1), 7);
        clock.undo();
        checks.due("in quarter 4 it is not done yet, but will be", clock.done(0), 5);
        clock.wool(6);
        checks.due("24 of 36 by 4, 6 each from then on", clock.done(0), 6);
        checks.due("quarter 4", clock.count(3), 4);
    }

    private static void promise19LateByOneQuarter() {
        checks.due("done on 3 by 3", Houses.of("c0;p12,0,0,8;x0,3,3;").late(), 0);
        checks.due("done on 3 by 2", Houses.of("c0;p12,0,0,8;x0,3,2;").late(), 1);
        checks.due("done on 99 by 99", Houses.of("c0;p12,0,0,8;x98,1,99;").late(), 0);
        checks.due("done on 100 by 99", Houses.of("c0;p12,0,0,8;x99,1,99;").late(), 1);
        checks.due("due by 0", Houses.of("c0;p12,0,0,8;x0,1,0;").late(), 1);
        checks.due("due by 1", Houses.of("c0;p12,0,0,8;x0,1,1;").late(), 0);
        checks.due("due before it begins", Houses.of("c0;p12,0,0,8;x9,1,8;").late(), 1);
        checks.due("never done", Houses.of("c0;x0,1,99;").late(), 1);
        HeedClock clock = Houses.of("c0;p12,0,0,8;x0,3,3;x0,3,2;");
        pass(clock, 200);
        clock.hush(0, 1);
        checks.due("long ago", clock.late(), 2);
    }

    private static void promise19LateOfEachDoing() {
        for (int late = 0; late < 16; late++) {
            StringBuilder text = new StringBuilder("c0;p12,0,0,8;");
            for (int doing = 0; doing < 4; doing++) {
                text.append((late >> doing & 1) == 1 ? "x0,5,4;" : "x0,5,5;");
            }
            checks.due("late by " + text, Houses.of(text.toString()).late(), late);
        }
        checks.due("no doings", Houses.of("c0;p12,0,0,8;").late(), 0);
        checks.due("no house", new HeedClock().late(), STATE);
    }

    private static void promise20LatestAtTheEnds() {
        HeedClock clock = Houses.of("c0;p12,0,0,8;x0,1,99;x0,40,40;x0,40,39;x99,1,1;");
        checks.due("98 is the last", clock.latest(0), 98);
        checks.due("480 by 40: this one", clock.latest(1), 0);
        checks.due("480 by 39", clock.latest(2), NONE);
        checks.due("12 by 1: this one", clock.latest(3), 0);
        clock.quarters(1);
        checks.due("97 from now", clock.latest(0), 97);
        checks.due("480 by 40, from 1 on", clock.latest(1), NONE);
        checks.due("due by now", clock.latest(3), NONE);
        pass(clock, 97);
        checks.due("98 is this one", clock.latest(0), 0);
        clock.quarters(1);
        checks.due("99 is too late", clock.latest(0), NONE);
        clock.quarters(1);
        checks.due("due by 99, which is over", clock.latest(0), NONE);
        pass(clock, 899);
        checks.due("long over", clock.latest(0), NONE);
        checks.due("due by 0", Houses.of("c0;p12,0,0,8;x0,1,0;").latest(0), NONE);
        checks.due("it has begun, and is done: it can be begun again", clock.done(1), 40);
    }

    private static void promise20LatestByOnePart() {
        checks.due("11 in one", Houses.of("c0;p11,0,0,8;x0,1,1;").latest(0), NONE);
        checks.due("11 in each of two", Houses.of("c0;p11,0,0,8;x0,1,2;").latest(0), 0);
        checks.due("12 in one", Houses.of("c0;p12,0,0,8;x0,1,2;").latest(0), 1);
        checks.due("only in 3 and 11", Houses.of("c0;p12,0,3,1;x0,1,12;").latest(0), 11);
        checks.due("only in 3, by 11", Houses.of("c0;p12,0,3,1;x0,1,11;").latest(0), 3);
        checks.due("only in 3, by 3", Houses.of("c0;p12,0,3,1;x0,1,3;").latest(0), NONE);
        checks.due("nobody", Houses.of("c0;x0,1,99;").latest(0), NONE);
        HeedClock clock = Houses.of("c0;p12,0,0,8;x0,2,9;");
        clock.quarters(4);
        clock.hush(0, 1);
        checks.due("what went is of no use", clock.latest(0), NONE);
    }

    private static void goal(HeedClock clock, int v, int n, int many, int which) {
        checks.due("how many to hush for " + v + " in " + n, clock.toHush(v, n, 0), many);
        checks.due("which to hush for " + v + " in " + n, clock.toHush(v, n, 1), which);
    }

    private static void promise21ToHushAtTheEnds() {
        HeedClock clock = oneByOne();
        goal(clock, 0, 0, 0, 0);
        goal(clock, 0, 1, 1, 1);
        goal(clock, 1, 1, 0, 0);
        goal(clock, 98, 99, 1, 1);
        goal(clock, 99, 99, 0, 0);
        pass(clock, 900);
        goal(clock, 999, 99, 0, 0);
        goal(clock, 998, 99, 1, 1);
        goal(clock, 899, 99, NONE, NONE);
        goal(clock, 900, 99, 1, 1);
        pass(clock, 99);
        goal(clock, 999, 0, 0, 0);
        goal(clock, 998, 0, NONE, NONE);
        goal(clock, 999, 1, 1, 1);
        clock.hush(0, 1);
        goal(clock, 999, 99, 0, 0);
        goal(clock, 998, 99, NONE, NONE);
    }

    private static void promise21ToHushTheLeastOfSeveral() {
        HeedClock alike = Houses.of("c0;" + "p4,0,0,8;".repeat(6));
        goal(alike, 8, 4, 0, 0);
        goal(alike, 7, 4, 1, 1);
        goal(alike, 6, 4, 1, 1);
        goal(alike, 5, 4, 2, 3);
        goal(alike, 4, 4, 3, 7);
        goal(alike, 1, 4, 5, 31);
        goal(alike, 0, 4, 6, 63);
        goal(alike, 0, 2, 5, 31);
        goal(alike, 0, 99, 6, 63);
        alike.hush(0, 1);
        alike.hush(3, 1);
        goal(alike, 5, 4, 0, 0);
        goal(alike, 4, 4, 1, 2);
        goal(alike, 0, 99, 4, 2 + 4 + 16 + 32);
        alike.go(1, 2);
        goal(alike, 0, 99, 3, 4 + 16 + 32);
        HeedClock later = Houses.of("c0;p6,0,0,8;p3,0,0,8;p9,0,0,8;");
        goal(later, 9, 12, 1, 4);
        goal(later, 12, 12, 1, 1);
        goal(later, 17, 12, 1, 1);
    }

    private static void call(HeedClock clock, int v, int n, int many, int which) {
        checks.due("how many to call for " + v + " in " + n, clock.toCall(v, n, 0), many);
        checks.due("which to call for " + v + " in " + n, clock.toCall(v, n, 1), which);
    }

    private static void promise22ToCallAtTheEnds() {
        HeedClock clock = Houses.of("c0;p12,0,0,8;p12,1,0,8;");
        call(clock, 0, 0, 0, 0);
        call(clock, 1, 0, NONE, NONE);
        call(clock, 1, 1, 0, 0);
        call(clock, 2, 1, 1, 2);
        call(clock, 3, 1, NONE, NONE);
        call(clock, 99, 99, 0, 0);
        call(clock, 100, 99, 1, 2);
        call(clock, 198, 99, 1, 2);
        call(clock, 199, 99, NONE, NONE);
        pass(clock, 900);
        call(clock, 999, 99, 0, 0);
        call(clock, 999, 98, 1, 2);
        call(clock, 999, 50, 1, 2);
        call(clock, 999, 49, NONE, NONE);
        clock.hush(1, 1);
        call(clock, 999, 50, 1, 2);
        clock.hush(0, 1);
        call(clock, 999, 99, 1, 2);
        call(clock, 999, 98, NONE, NONE);
        call(clock, 900, 99, 0, 0);
        call(clock, 901, 99, 1, 2);
    }

    private static void promise22ToCallTheLeastOfSeveral() {
        HeedClock alike = Houses.of("c0;" + "p4,1,0,8;".repeat(2) + "p4,2,0,8;".repeat(2) + "p4,3,0,8;".repeat(2));
        call(alike, 0, 4, 0, 0);
        call(alike, 1, 3, 1, 1);
        call(alike, 2, 3, 2, 3);
        call(alike, 5, 3, 5, 31);
        call(alike, 6, 3, 6, 63);
        call(alike, 7, 3, NONE, NONE);
        alike.go(0, 0);
        call(alike, 1, 3, 0, 0);
        call(alike, 2, 3, 1, 2);
        call(alike, 6, 3, 5, 62);
        alike.hush(0, 1);
        call(alike, 5, 3, 5, 62);
        call(alike, 6, 3, NONE, NONE);
        HeedClock seldom = Houses.of("c0;p12,1,7,1;p11,1,0,8;");
        call(seldom, 1, 8, 1, 1);
        call(seldom, 1, 7, 1, 2);
        call(seldom, 8, 8, 2, 3);
        call(seldom, 9, 8, NONE, NONE);
    }

    /** Six that give 1, 2, 4, 3, 8 and 1: each number of parts has its sets, counted here one by one. */
    private static void promise23WhoByEachSet() {
        int[] gives = {1, 2, 4, 3, 8, 1};
        HeedClock clock = Houses.of("c0;p1,0,0,8;p2,1,0,8;p4,2,0,8;k6,3,0,8;p8,0,0,8;t3,1,0,8;");
        clock.hush(0, 1);
        for (int parts = 0; parts <= 20; parts++) {
            int many = 0;
            int least = NONE;
            for (int set = 63; set >= 0; set--) {
                int sum = 0;
                for (int ear = 0; ear < 6; ear++) {
                    sum += (set >> ear & 1) * gives[ear];
                }
                if (sum == parts) {
                    many++;
                    least = set;
                }
            }
            Houses.row(clock, 0, parts);
            checks.due("sets of " + parts, clock.who(0, 0, 1, 0), many);
            checks.due("the least set of " + parts, clock.who(0, 0, 1, 1), least);
        }
    }

    private static void promise23WhoByItemsNobodyGives() {
        HeedClock clock = Houses.of("c0;" + "p12,0,0,8;".repeat(6));
        int[] items = {-1, 73, Integer.MAX_VALUE, Integer.MIN_VALUE};
        for (int item : items) {
            Houses.row(clock, 0, item);
            checks.due("none gives " + item, clock.who(0, 0, 1, 0), 0);
            checks.due("no set gives " + item, clock.who(0, 0, 1, 1), NONE);
        }
        Houses.row(clock, 0, 72);
        checks.due("all give 72", clock.who(0, 0, 1, 1), 63);
        Houses.row(clock, 0, 0);
        checks.due("none give 0", clock.who(0, 0, 1, 1), 0);
        checks.due("that is one set", clock.who(0, 0, 1, 0), 1);
        clock.row(1, 0, 1);
        clock.set(1, 0, 256 + 12);
        checks.due("by its lowest bits 12", clock.who(1, 0, 1, 0), 6);
    }

    private static void promise24HeedByEachHeed() {
        for (int heed = 1; heed <= 12; heed++) {
            HeedClock clock = Houses.of("c0;p5,0,0,8;t5,0,0,8;k5,0,0,8;");
            Houses.row(clock, 0, heed + 2 + 2);
            checks.due("a person's heed " + heed, clock.heed(0, 0, 0, 1), 1 << heed - 1);
        }
        HeedClock clock = Houses.of("c0;t5,0,0,8;k5,0,0,8;");
        int[] ofThief = {0x001, 0x006, 0x018, 0x060, 0x180, 0x600, 0x800, 0};
        for (int half = 0; half < ofThief.length; half++) {
            Houses.row(clock, 0, half + 2);
            checks.due("a thief's heeds for " + half, clock.heed(0, 0, 0, 1), ofThief[half]);
        }
        int[] ofCat = {0x001, 0x006, 0x018, 0xfe0, 0};
        for (int half = 0; half < ofCat.length; half++) {
            Houses.row(clock, 0, half + 2);
            checks.due("a cat's heeds for " + half, clock.heed(1, 0, 0, 1), ofCat[half]);
        }
        HeedClock woolly = Houses.of("c12;p5,0,0,8;");
        Houses.row(woolly, 0, 0);
        checks.due("all of 12 are lost in 12", woolly.heed(0, 0, 0, 1), 0xfff);
        woolly.wool(11);
        checks.due("but 12 in 11", woolly.heed(0, 0, 0, 1), 0x7ff);
    }

    /** Then it goes as it goes, whatever the ear's heed: all, or none. */
    private static void promise24HeedOfWhoDoesNotListen() {
        HeedClock clock = Houses.of("c0;p5,0,0,8;p6,1,0,8;p7,0,1,7;d8,0,0,8;");
        Houses.row(clock, 0, 5);
        Houses.row(clock, 1, 6);
        for (int ear = 1; ear <= 3; ear++) {
            checks.due("all for 5, ear " + ear, clock.heed(ear, 0, 0, 1), 0xfff);
            checks.due("none for 6, ear " + ear, clock.heed(ear, 1, 0, 1), 0);
        }
        clock.hush(0, 1);
        Houses.row(clock, 0, 0);
        checks.due("all for 0, hushed", clock.heed(0, 0, 0, 1), 0xfff);
        HeedClock widower = Houses.of("c0;w5,0,0,8;p12,0,0,8;");
        Houses.row(widower, 0, 12);
        checks.due("a silenced widower's: all", widower.heed(0, 0, 0, 1), 0xfff);
        Houses.row(widower, 0, 16);
        checks.due("who lets him give: 11", widower.heed(1, 0, 0, 1), 1 << 10);
    }

    private static void promise24HeedAcrossTheRound() {
        HeedClock clock = Houses.of("c0;p5,0,7,2;");
        clock.quarters(6);
        Houses.row(clock, 0, 9, 0, 5, 5, 0, 0, 0, 0, 0, 0, 5, 5, 0, 0, 0, 0, 0, 9);
        checks.due("16 of them", clock.heed(0, 0, 1, 16), 1 << 4);
        checks.due("one too early", clock.heed(0, 0, 2, 15), 0);
        clock.set(0, 16, 1);
        checks.due("the last of 16 counts", clock.heed(0, 0, 1, 16), 0);
        checks.due("but not for 15", clock.heed(0, 0, 1, 15), 1 << 4);
        clock.set(0, 3, 6);
        checks.due("no heed for both", clock.heed(0, 0, 1, 3), 0);
    }

    private static void promise25OlderAtTheEnds() {
        HeedClock clock = Houses.of("c0;p12,0,0,8;p12,0,0,8;p1,1,0,8;d1,2,0,8;");
        checks.due("24 less 12", clock.older(0, 2, 1), 12);
        checks.due("99 times", clock.older(0, 2, 99), 99 * 12);
        checks.due("below 0", clock.older(2, 0, 99), -99 * 12);
        checks.due("both by the clock", clock.older(0, 1, 99), 0);
        checks.due("both by the sun", clock.older(2, 3, 99), 0);
        checks.due("none", clock.older(0, 2, 0), 0);
        pass(clock, 999);
        checks.due("now", clock.older(0, 2, 0), 999 * 12);
        checks.due("99 beyond 999", clock.older(2, 0, 99), -1098 * 12);
        clock.hush(0, 1);
        clock.hush(1, 1);
        checks.due("the clock stands", clock.older(0, 2, 99), 999 * 12 - 99 * 12);
        clock.go(2, 0);
        checks.due("it goes by 1 for both", clock.older(0, 2, 99), 999 * 12);
        checks.due("who is out lives on", clock.older(3, 2, 99), 99 * 12 - 99);
    }

    private static void odds(HeedClock clock, int parts, int c, int above, int below) {
        checks.due("odds of " + parts + " by " + c + ", above", clock.odds(parts, c, 0), above);
        checks.due("odds of " + parts + " by " + c + ", below", clock.odds(parts, c, 1), below);
    }

    private static void promise26OddsAtTheEnds() {
        HeedClock six = Houses.of("c0;" + "p12,0,0,8;".repeat(6));
        odds(six, 72, 1, 531441, 1000000);
        odds(six, 72, 9, 1, 1000000);
        odds(six, 72, 0, 1, 1);
        odds(six, 72, 10, 0, 1);
        odds(six, 73, 0, 0, 1);
        odds(six, 73, 5, 0, 1);
        odds(six, 99, 5, 0, 1);
        odds(six, 0, 0, 1, 1);
        odds(six, 0, 10, 1, 1);
        odds(six, 1, 10, 0, 1);
        odds(six, 1, 9, 468559, 1000000);
        odds(six, 61, 5, 1, 64);
        odds(six, 60, 5, 7, 64);
        odds(six, 13, 5, 57, 64);
        odds(six, 12, 5, 63, 64);
    }

    private static void promise26OddsInLowestTerms() {
        HeedClock one = Houses.of("c0;p5,0,0,8;");
        int[][] due = {{1, 1}, {9, 10}, {4, 5}, {7, 10}, {3, 5}, {1, 2}, {2, 5}, {3, 10}, {1, 5}, {1, 10}, {0, 1}};
        for (int c = 0; c <= 10; c++) {
            odds(one, 5, c, due[c][0], due[c][1]);
            odds(one, 6, c, 0, 1);
            odds(one, 0, c, 1, 1);
        }
    }

    /** Who does not listen now cannot think of something else, and a deaf one's thoughts change nothing. */
    private static void promise26OddsOfWhoListens() {
        HeedClock clock = Houses.of("c0;p5,0,0,8;p5,1,0,8;p5,0,1,7;d5,0,0,8;w4,0,0,8;p9,0,0,8;");
        clock.hush(5, 1);
        odds(clock, 9, 3, 49, 100);
        odds(clock, 5, 3, 7, 10);
        odds(clock, 4, 3, 91, 100);
        odds(clock, 10, 3, 0, 1);
        clock.hush(5, 0);
        odds(clock, 14, 5, 1, 4);
        odds(clock, 13, 5, 3, 8);
        odds(clock, 15, 0, 0, 1);
        clock.quarters(1);
        odds(clock, 19, 0, 1, 1);
        odds(clock, 20, 0, 0, 1);
        odds(clock, 19, 5, 1, 8);
    }

    private static void promises27And28ImagesStandByThemselves() {
        HeedClock clock = Houses.of("c1;p9,0,0,8;");
        clock.image(0);
        clock.quarters(3);
        clock.image(1);
        Houses.read(clock, "c2;k9,0,0,8;d1,0,0,8;");
        clock.quarters(1);
        checks.due("image 0", clock.restore(0), 1);
        checks.due("none went", clock.clock(0), 0);
        checks.due("image 1", clock.restore(1), 1);
        checks.due("24 went", clock.clock(0), 24);
        checks.due("image 0 again", clock.restore(0), 1);
        checks.due("none went again", clock.clock(0), 0);
        clock.wool(7);
        checks.due("image 0 anew", clock.image(0), 1);
        clock.restore(1);
        checks.due("image 1 is as it was", clock.clock(3), 1);
        clock.restore(0);
        checks.due("image 0 is the new one", clock.clock(3), 7);
        checks.due("a house of nobody", Houses.read(clock, "c3;"), 0);
        checks.due("has an image, too", clock.image(1), 1);
        clock.restore(0);
        clock.restore(1);
        checks.due("nobody", clock.count(1), 0);
        checks.due("wool 3", clock.clock(3), 3);
        HeedClock second = Houses.of("c1;");
        second.image(1);
        checks.due("image 0 was not kept", second.restore(0), STATE);
        checks.due("image 1 was", second.restore(1), 1);
    }

    private static void promise28RestoreAtTheLastQuarter() {
        HeedClock clock = Houses.of("c0;p12,0,0,8;x99,40,99;");
        clock.image(0);
        pass(clock, 999);
        clock.image(1);
        clock.restore(0);
        checks.due("quarter 0", clock.count(3), 0);
        checks.due("not till 99", clock.done(0), NONE);
        pass(clock, 5);
        clock.restore(1);
        checks.due("quarter 999", clock.count(3), 999);
        checks.due("done on 139, long ago", clock.done(0), 139);
        checks.due("no more", clock.quarters(1), Houses.FULL);
        clock.restore(0);
        checks.due("20 more", clock.quarters(20), 240);
    }
}
