/** Promises 1 and 6 to 8: a new object, the tape, the text of a house and its faults. */
public final class HousesTest {
    private static final int NONE = Houses.NONE, BAD = Houses.BAD, STATE = Houses.STATE, FULL = Houses.FULL;
    private static final Checks checks = new Checks("houses");

    public static void main(String[] args) {
        promise1NewObject();
        promise6Feed();
        promise7House();
        promise7HouseInPlaceOfOne();
        promise7FaultsOfTheLaw();
        promise7FaultsOfEars();
        promise7FaultsOfDoings();
        promise7TooMany();
        promise7AFaultLeavesAll();
        promise8Fault();
        checks.end();
    }

    private static void promise1NewObject() {
        HeedClock clock = new HeedClock();
        for (int what = 0; what <= 7; what++) {
            checks.due("count " + what, clock.count(what), 0);
        }
        checks.due("no house", clock.clock(0), STATE);
        checks.due("no ear", clock.kind(0), BAD);
        checks.due("no doing", clock.done(0), BAD);
        checks.due("nothing to undo", clock.undo(), STATE);
        checks.due("no image", clock.restore(0), STATE);
        checks.due("no fault", clock.fault(), 0);
        checks.due("no finding", clock.status(), 0);
        checks.due("no trace", clock.trace(0), NONE);
        HeedClock other = Houses.of(Houses.ALL_SORTS);
        other.image(0);
        checks.due("another object's house is its own", clock.clock(0), STATE);
        checks.due("and so is its image", clock.restore(0), STATE);
    }

    private static void promise6Feed() {
        HeedClock clock = new HeedClock();
        checks.due("letter -1", clock.feed(-1), BAD);
        checks.due("letter 256", clock.feed(256), BAD);
        checks.due("nothing came", clock.count(7), 0);
        checks.due("letter 0", clock.feed(0), 1);
        checks.due("letter 255", clock.feed(255), 2);
        for (int i = 3; i <= 120; i++) {
            checks.due("byte " + i, clock.feed('c'), i);
        }
        checks.due("byte 121", clock.feed('c'), FULL);
        checks.due("BAD ahead of FULL", clock.feed(256), BAD);
        checks.due("120 bytes", clock.count(7), 120);
        clock.house();
        checks.due("the tape is empty again", clock.feed('c'), 1);
    }

    private static void promise7House() {
        HeedClock clock = new HeedClock();
        checks.due("all sorts", Houses.read(clock, Houses.ALL_SORTS), 6);
        checks.due("the tape is empty then", clock.count(7), 0);
        checks.due("6 ears", clock.count(1), 6);
        checks.due("3 doings", clock.count(2), 3);
        checks.due("wool", clock.clock(3), 1);
        int[] heeds = {9, 7, 8, 12, 5, 4};
        int[] rooms = {0, 0, 0, 0, 0, 1};
        for (int ear = 0; ear < 6; ear++) {
            checks.due("heed of " + ear, clock.ear(ear, 0), heeds[ear]);
            checks.due("room of " + ear, clock.ear(ear, 1), rooms[ear]);
            checks.due("lived of " + ear, clock.ear(ear, 5), 0);
        }
        checks.due("a house of nobody", Houses.read(clock, "c12;"), 0);
        checks.due("and no doings", clock.count(2), 0);
        checks.due("it stands", clock.clock(3), 12);
        checks.due("a house of doings alone", Houses.read(clock, "c0;x99,40,99;x0,1,0;x1,1,1;x2,2,2;"), 0);
        checks.due("4 doings", clock.count(2), 4);
        checks.due("all at their edges", Houses.read(clock, "c00;d01,03,07,08;p12,3,7,8;w1,0,0,1;"), 3);
        checks.due("a 0 ahead is fine", clock.ear(0, 0), 1);
        checks.due("wool none", clock.clock(3), 0);
    }

    private static void promise7HouseInPlaceOfOne() {
        HeedClock clock = Houses.of(Houses.ALL_SORTS);
        clock.quarters(5);
        clock.hush(0, 1);
        clock.go(1, 2);
        checks.due("another house", Houses.read(clock, "c2;p5,0,0,8;p6,1,0,8;"), 2);
        checks.due("quarter 0", clock.count(3), 0);
        checks.due("parts 0", clock.clock(0), 0);
        checks.due("nobody hushed", clock.count(4), 0);
        checks.due("lived 0", clock.ear(0, 5), 0);
        checks.due("no doing", clock.count(2), 0);
        checks.due("nothing to undo", clock.undo(), STATE);
        checks.due("one in room 0", clock.count(5), 1);
    }

    private static void faulty(String text, int place, int fault) {
        HeedClock clock = new HeedClock();
        checks.due("house of " + text, Houses.read(clock, text), -1000100 - place);
        checks.due("fault of " + text, clock.fault(), fault);
        checks.due("no house by " + text, clock.clock(0), STATE);
    }

    private static void promise7FaultsOfTheLaw() {
        faulty("", 0, 1);
        faulty(";", 0, 1);
        faulty("p1,0,0,8;", 0, 1);
        faulty("C1;", 0, 1);
        faulty("c", 1, 1);
        faulty("c;", 1, 1);
        faulty("cc", 1, 1);
        faulty("c13;", 1, 2);
        faulty("c99", 1, 2);
        faulty("c013;", 1, 1);
        faulty("c1", 2, 1);
        faulty("c1,", 2, 1);
        faulty("c12,", 3, 1);
        faulty("c 1;", 1, 1);
        faulty("c1 ;", 2, 1);
        faulty("c1; ", 3, 1);
        faulty("c1;c1;", 3, 1);
        faulty("c1;;", 3, 1);
        faulty("c1;5", 3, 1);
        faulty("c1;" + (char) 200, 3, 1);
        faulty("c-1;", 1, 1);
        faulty("c1/", 2, 1);
        faulty("c1:", 2, 1);
    }

    private static void promise7FaultsOfEars() {
        faulty("c1;q", 3, 1);
        faulty("c1;p", 4, 1);
        faulty("c1;pp", 4, 1);
        faulty("c1;p0,", 4, 2);
        faulty("c1;p00,", 4, 2);
        faulty("c1;p13,", 4, 2);
        faulty("c1;p012,", 4, 1);
        faulty("c1;p1;", 5, 1);
        faulty("c1;p1,4,", 6, 2);
        faulty("c1;p1,,", 6, 1);
        faulty("c1;p12,3,8,", 9, 2);
        faulty("c1;p1,0,7,0;", 10, 2);
        faulty("c1;p1,0,7,9;", 10, 2);
        faulty("c1;p1,0,7,8,", 11, 1);
        faulty("c1;p1,0,7,8", 11, 1);
        faulty("c1;p1,0,7,8;w1,0,0", 18, 1);
        faulty("c1;p1,0,7;", 9, 1);
        faulty("c13;p0,9,9,9;", 1, 2);
    }

    private static void promise7FaultsOfDoings() {
        faulty("c1;x", 4, 1);
        faulty("c1;x99,0,", 7, 2);
        faulty("c1;x99,41,", 7, 2);
        faulty("c1;x100,", 4, 1);
        faulty("c1;x0,1;", 7, 1);
        faulty("c1;x0,1,100;", 8, 1);
        faulty("c1;x0,1,99,", 10, 1);
        faulty("c1;x0,40,99", 11, 1);
        faulty("c1;x0,1,0;p1,0,0,1;", 10, 1);
        faulty("c1;x0,1,0;c", 10, 1);
        faulty("c1;x0,1,0;k", 10, 1);
    }

    private static void promise7TooMany() {
        String ear = "p1,0,0,1;";
        String six = "c1;" + ear.repeat(6);
        HeedClock clock = new HeedClock();
        checks.due("6 ears", Houses.read(clock, six), 6);
        faulty(six + ear, 57, 3);
        faulty(six + "d", 57, 3);
        faulty(six + "q", 57, 1);
        String doing = "x0,1,0;";
        checks.due("4 doings", Houses.read(clock, "c1;" + doing.repeat(4)), 0);
        faulty("c1;" + doing.repeat(4) + doing, 31, 3);
        faulty("c1;" + doing.repeat(4) + "x", 31, 3);
        faulty("c1;" + doing.repeat(4) + "p", 31, 1);
        checks.due("6 ears, 4 doings", Houses.read(clock, six + doing.repeat(4)), 6);
        checks.due("4 of them", clock.count(2), 4);
    }

    private static void promise7AFaultLeavesAll() {
        HeedClock clock = Houses.of(Houses.ALL_SORTS);
        clock.quarters(2);
        clock.hush(0, 1);
        checks.due("a fault late in the text", Houses.read(clock, "c5;p1,1,1,1;x1,1,100;"), -1000117);
        checks.due("the tape is empty", clock.count(7), 0);
        checks.due("ears stay", clock.count(1), 6);
        checks.due("heed stays", clock.ear(0, 0), 9);
        checks.due("room stays", clock.ear(0, 1), 0);
        checks.due("wool stays", clock.clock(3), 1);
        checks.due("doings stay", clock.count(2), 3);
        checks.due("the doing's due stays: 156 till 20, less 36", clock.latest(1), 4);
        checks.due("parts stay", clock.clock(0), 31);
        checks.due("acts stay", clock.count(6), 3);
    }

    private static void promise8Fault() {
        HeedClock clock = new HeedClock();
        checks.due("before one", clock.fault(), 0);
        Houses.read(clock, "c1;");
        checks.due("a house without", clock.fault(), 0);
        Houses.read(clock, "c13;");
        checks.due("2", clock.fault(), 2);
        Houses.read(clock, "c1;");
        checks.due("the latest stays 2", clock.fault(), 2);
        Houses.read(clock, "c");
        checks.due("1", clock.fault(), 1);
        Houses.read(clock, "c1;" + "x0,1,0;".repeat(5));
        checks.due("3", clock.fault(), 3);
    }
}
