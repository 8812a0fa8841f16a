/** Promises 9 to 15: what happens in a house, what is undone, what is seen of it. */
public final class ActsTest {
    private static final int BAD = Houses.BAD, STATE = Houses.STATE, FULL = Houses.FULL;
    private static final Checks checks = new Checks("acts");

    public static void main(String[] args) {
        promise9Quarters();
        promise9QuartersRefused();
        promise10Go();
        promise11Hush();
        promise12Wool();
        promise13UndoEach();
        promise13UndoForgets();
        promise13UndoForgetsButKnowsWhose();
        promise13UndoManyQuarters();
        promise14Ear();
        promise14EarListens();
        promise14EarGives();
        promise14WidowersAreSilenced();
        promise15Clock();
        checks.end();
    }

    private static void promise9Quarters() {
        HeedClock clock = Houses.of(Houses.ALL_SORTS);
        checks.due("17 in quarter 0", clock.quarters(1), 17);
        checks.due("14 in quarter 1, 17 in 2", clock.quarters(2), 48);
        checks.due("quarter 3", clock.count(3), 3);
        checks.due("an act each", clock.count(6), 3);
        checks.due("who is in room 0 lives by the clock", clock.ear(0, 5), 48);
        checks.due("a deaf one, too", clock.ear(4, 5), 48);
        checks.due("all others by the sun", clock.ear(5, 5), 36);
        clock.hush(0, 1);
        clock.quarters(1);
        checks.due("a hushed one lives by the clock, too", clock.ear(0, 5), 48 + 9);
    }

    private static void promise9QuartersRefused() {
        HeedClock clock = new HeedClock();
        checks.due("STATE ahead of BAD", clock.quarters(0), STATE);
        clock = Houses.of("c0;p1,0,0,8;");
        checks.due("0", clock.quarters(0), BAD);
        checks.due("21", clock.quarters(21), BAD);
        checks.due("far", clock.quarters(Integer.MAX_VALUE), BAD);
        for (int i = 1; i <= 49; i++) {
            checks.due("20 more", clock.quarters(20), 20 * i);
        }
        checks.due("beyond 999", clock.quarters(20), FULL);
        checks.due("BAD ahead of FULL", clock.quarters(21), BAD);
        checks.due("nothing went", clock.clock(0), 980);
        checks.due("up to 999", clock.quarters(19), 999);
        checks.due("one beyond", clock.quarters(1), FULL);
        checks.due("quarter 999", clock.count(3), 999);
        checks.due("foretold beyond it", clock.ahead(99), 1098);
        clock.undo();
        checks.due("one again", clock.quarters(1), 999);
    }

    private static void promise10Go() {
        HeedClock clock = Houses.of(Houses.ALL_SORTS);
        checks.due("0 goes to 3", clock.go(0, 3), 0);
        checks.due("it is there", clock.ear(0, 1), 3);
        checks.due("from 3 to 1", clock.go(0, 1), 3);
        checks.due("it is there already", clock.go(0, 1), STATE);
        checks.due("5 comes to 0", clock.go(5, 0), 1);
        checks.due("in room 0", clock.count(5), 5);
        checks.due("two more acts", clock.count(6), 3);
        checks.due("ear -1", clock.go(-1, 0), BAD);
        checks.due("ear 6", clock.go(6, 0), BAD);
        checks.due("room -1", clock.go(0, -1), BAD);
        checks.due("room 4", clock.go(0, 4), BAD);
        checks.due("no house", new HeedClock().go(0, 1), BAD);
        checks.due("3 acts yet", clock.count(6), 3);
    }

    private static void promise11Hush() {
        HeedClock clock = Houses.of(Houses.ALL_SORTS);
        checks.due("1 is hushed", clock.hush(1, 1), 1);
        checks.due("5 is, in another room", clock.hush(5, 1), 2);
        checks.due("it is so", clock.hush(1, 1), STATE);
        checks.due("0 is not", clock.hush(0, 0), STATE);
        checks.due("1 not any more", clock.hush(1, 0), 1);
        checks.due("whether", clock.ear(5, 2), 1);
        checks.due("whether not", clock.ear(1, 2), 0);
        checks.due("ear -1", clock.hush(-1, 1), BAD);
        checks.due("ear 6", clock.hush(6, 1), BAD);
        checks.due("is -1", clock.hush(0, -1), BAD);
        checks.due("is 2", clock.hush(0, 2), BAD);
        checks.due("no house", new HeedClock().hush(0, 1), BAD);
        checks.due("3 acts", clock.count(6), 3);
        clock.hush(0, 1);
        checks.due("who is hushed does not listen", clock.ear(0, 3), 0);
        checks.due("nor give", clock.clock(2), 6 + 3);
    }

    private static void promise12Wool() {
        HeedClock clock = new HeedClock();
        checks.due("STATE ahead of BAD", clock.wool(13), STATE);
        clock = Houses.of(Houses.ALL_SORTS);
        checks.due("it was 1", clock.wool(12), 1);
        checks.due("it was 12", clock.wool(0), 12);
        checks.due("-1", clock.wool(-1), BAD);
        checks.due("13", clock.wool(13), BAD);
        checks.due("wool 0", clock.clock(3), 0);
        checks.due("2 acts", clock.count(6), 2);
        checks.due("the same again", clock.wool(0), 0);
        clock.wool(8);
        checks.due("heed less wool", clock.ear(0, 4), 1);
        checks.due("0 at least", clock.ear(1, 4), 0);
        checks.due("a cat half of 4", clock.ear(3, 4), 2);
        checks.due("heed is as told", clock.ear(0, 0), 9);
    }

    private static void promise13UndoEach() {
        HeedClock clock = Houses.of(Houses.ALL_SORTS);
        checks.due("none", clock.undo(), STATE);
        clock.quarters(1);
        clock.go(5, 0);
        clock.hush(0, 1);
        clock.wool(0);
        clock.hush(0, 0);
        clock.quarters(1);
        checks.due("6 acts", clock.count(6), 6);
        checks.due("p9 p4 k0 d0 silence the widower", clock.clock(0), 17 + 13);
        checks.due("the quarter", clock.undo(), 5);
        checks.due("parts", clock.clock(0), 17);
        checks.due("quarter", clock.count(3), 1);
        checks.due("lived, in room 0", clock.ear(5, 5), 12);
        checks.due("lived", clock.ear(1, 5), 17);
        checks.due("not hushed any more", clock.undo(), 4);
        checks.due("hushed", clock.ear(0, 2), 1);
        checks.due("wool", clock.undo(), 3);
        checks.due("1", clock.clock(3), 1);
        checks.due("hushed", clock.undo(), 2);
        checks.due("not hushed", clock.count(4), 0);
        checks.due("gone", clock.undo(), 1);
        checks.due("in room 1", clock.ear(5, 1), 1);
        checks.due("the first quarter", clock.undo(), 0);
        checks.due("lived 0", clock.ear(5, 5), 0);
        checks.due("parts 0", clock.clock(0), 0);
        checks.due("none more", clock.undo(), STATE);
    }

    private static void promise13UndoForgets() {
        HeedClock clock = Houses.of(Houses.ALL_SORTS);
        clock.go(0, 1);
        for (int i = 0; i < 24; i++) {
            clock.wool(i % 2 == 0 ? 5 : 6);
        }
        checks.due("24 at most", clock.count(6), 24);
        for (int left = 23; left >= 0; left--) {
            checks.due("undone", clock.undo(), left);
        }
        checks.due("wool as at first", clock.clock(3), 1);
        checks.due("the oldest is forgotten", clock.undo(), STATE);
        checks.due("so it stays", clock.ear(0, 1), 1);
    }

    private static void promise13UndoForgetsButKnowsWhose() {
        HeedClock clock = Houses.of("c0;p1,0,0,8;p1,1,0,8;p1,2,0,8;");
        for (int i = 0; i < 10; i++) {
            clock.go(0, 3 - 3 * (i % 2));
            clock.hush(1, 1 - i % 2);
            clock.go(2, 3 - i % 2);
        }
        checks.due("24 of 30", clock.count(6), 24);
        for (int i = 9; i >= 2; i--) {
            checks.due("2 is where it went", clock.ear(2, 1), 3 - i % 2);
            clock.undo();
            checks.due("2 is where it was", clock.ear(2, 1), 2 + i % 2);
            checks.due("1 is hushed or not", clock.ear(1, 2), 1 - i % 2);
            clock.undo();
            checks.due("1 is as it was", clock.ear(1, 2), i % 2);
            checks.due("0 is where it went", clock.ear(0, 1), 3 - 3 * (i % 2));
            clock.undo();
            checks.due("0 is where it was", clock.ear(0, 1), 3 * (i % 2));
        }
        checks.due("none more", clock.undo(), STATE);
    }

    private static void promise13UndoManyQuarters() {
        HeedClock clock = Houses.of(Houses.ALL_SORTS);
        clock.quarters(20);
        clock.quarters(20);
        checks.due("24 of 40", clock.count(6), 24);
        for (int left = 23; left >= 0; left--) {
            checks.due("undone", clock.undo(), left);
        }
        checks.due("none more", clock.undo(), STATE);
        checks.due("quarter 16", clock.count(3), 16);
        checks.due("parts of two rounds", clock.clock(0), 266);
        checks.due("lived by the clock", clock.ear(0, 5), 266);
        checks.due("lived by the sun", clock.ear(5, 5), 16 * 12);
        checks.due("24 quarters again", clock.quarters(20), 266 + 331);
    }

    private static void promise14Ear() {
        HeedClock clock = Houses.of(Houses.ALL_SORTS);
        checks.due("what -1", clock.ear(0, -1), BAD);
        checks.due("what 6", clock.ear(0, 6), BAD);
        checks.due("ear -1", clock.ear(-1, 0), BAD);
        checks.due("ear 6", clock.ear(6, 0), BAD);
        checks.due("no house", new HeedClock().ear(0, 0), BAD);
        checks.due("heed", clock.ear(3, 0), 12);
        checks.due("room", clock.ear(5, 1), 1);
        checks.due("hushed", clock.ear(5, 2), 0);
        checks.due("the deaf one listens", clock.ear(4, 3), 1);
        checks.due("but gives nothing", clock.ear(4, 4), 0);
        checks.due("not in room 0: it does not listen", clock.ear(5, 3), 0);
        checks.due("nor give", clock.ear(5, 4), 0);
    }

    /** From 6 on, 3 quarters: 6, 7 and 0 by 8. */
    private static void promise14EarListens() {
        HeedClock clock = Houses.of("c0;k12,0,6,3;t8,0,0,1;p1,0,7,8;");
        for (int quarter = 0; quarter < 20; quarter++) {
            int by8 = quarter % 8;
            checks.due("cat in " + quarter, clock.ear(0, 3), by8 == 6 || by8 == 7 || by8 == 0 ? 1 : 0);
            checks.due("thief in " + quarter, clock.ear(1, 3), by8 == 0 ? 1 : 0);
            checks.due("person in " + quarter, clock.ear(2, 3), 1);
            clock.quarters(1);
        }
    }

    private static void promise14EarGives() {
        HeedClock clock = Houses.of("c1;p12,0,0,8;t12,0,0,8;t1,0,0,8;k12,0,0,8;k6,0,0,8;d12,0,0,8;");
        int[] gives = {11, 5, 0, 3, 2, 0};
        for (int ear = 0; ear < 6; ear++) {
            checks.due("gives " + ear, clock.ear(ear, 4), gives[ear]);
        }
        clock.wool(0);
        int[] without = {12, 6, 0, 3, 3, 0};
        for (int ear = 0; ear < 6; ear++) {
            checks.due("gives " + ear + " without wool", clock.ear(ear, 4), without[ear]);
        }
        clock.wool(12);
        checks.due("nothing is left", clock.clock(2), 0);
    }

    private static void promise14WidowersAreSilenced() {
        HeedClock clock = Houses.of("c0;w7,0,0,8;w5,0,0,8;p8,0,0,8;k6,0,0,8;p1,1,0,8;");
        checks.due("11 of others: the widower gives", clock.ear(0, 4), 7);
        checks.due("so does the other", clock.ear(1, 4), 5);
        checks.due("23 in all", clock.clock(2), 23);
        clock.go(4, 0);
        checks.due("12 of others: nothing", clock.ear(0, 4), 0);
        checks.due("nor the other", clock.ear(1, 4), 0);
        checks.due("it listens, though", clock.ear(0, 3), 1);
        checks.due("12 in all", clock.clock(2), 12);
        clock.hush(2, 1);
        checks.due("a hushed one does not silence", clock.clock(2), 7 + 5 + 3 + 1);
        HeedClock last = Houses.of("c0;p12,0,0,8;w5,0,0,8;");
        checks.due("silenced by who is told first", last.ear(1, 4), 0);
        checks.due("12 of the first alone", last.clock(2), 12);
        HeedClock two = Houses.of("c0;w12,0,0,8;w12,0,0,8;");
        checks.due("widowers do not silence each other", two.clock(2), 24);
    }

    private static void promise15Clock() {
        HeedClock clock = new HeedClock();
        checks.due("STATE ahead of BAD", clock.clock(4), STATE);
        clock = Houses.of("c2;p12,0,0,8;");
        checks.due("what -1", clock.clock(-1), BAD);
        checks.due("what 4", clock.clock(4), BAD);
        checks.due("10 in this quarter", clock.clock(2), 10);
        checks.due("wool", clock.clock(3), 2);
        clock.quarters(1);
        checks.due("10 parts", clock.clock(0), 10);
        checks.due("shows 0", clock.clock(1), 0);
        clock.quarters(1);
        checks.due("20 parts show 1", clock.clock(1), 1);
        clock.quarters(4);
        checks.due("60 parts show 5", clock.clock(1), 5);
    }
}
