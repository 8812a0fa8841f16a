/** Promises 2 to 5, and 34 for the calls with a ROW. */
public final class RowsTest {
    private static final int NULL = Houses.NULL, PLACE = Houses.PLACE, SIZE = Houses.SIZE, STORE = Houses.STORE;
    private static final int BAD = Houses.BAD;
    private static final int FAR = Integer.MAX_VALUE, LOW = Integer.MIN_VALUE;
    private static final Checks checks = new Checks("rows");

    public static void main(String[] args) {
        promise2Row();
        promise2RowReplaces();
        promise3SetCutsToTheLane();
        promise3SetRefuses();
        promise4Copy();
        promise4CopyOverlaps();
        promise4CopyRefuses();
        promise5Drop();
        promise34StatusOfRows();
        checks.end();
    }

    private static void promise2Row() {
        HeedClock clock = new HeedClock();
        checks.due("row of none", clock.row(0, 0, 0), 0);
        checks.due("row of 40", clock.row(7, 2, 40), 40);
        checks.due("rows there are", clock.count(0), 2);
        checks.due("row -1", clock.row(-1, 0, 1), BAD);
        checks.due("row 8", clock.row(8, 0, 1), BAD);
        checks.due("lane -1", clock.row(1, -1, 1), BAD);
        checks.due("lane 3", clock.row(1, 3, 1), BAD);
        checks.due("41 items", clock.row(1, 0, 41), BAD);
        checks.due("very many items", clock.row(1, 0, FAR), BAD);
        checks.due("-1 items", clock.row(1, 0, -1), SIZE);
        checks.due("least items", clock.row(1, 2, LOW), SIZE);
        checks.due("BAD ahead of SIZE, row", clock.row(8, 0, -1), BAD);
        checks.due("BAD ahead of SIZE, lane", clock.row(1, 3, -1), BAD);
        checks.due("refused rows are not there", clock.count(0), 2);
        checks.due("a found SIZE leaves what was there", clock.row(7, 0, -1), SIZE);
        checks.due("40 items yet", clock.drop(7), 40);
    }

    private static void promise2RowReplaces() {
        HeedClock clock = new HeedClock();
        Houses.row(clock, 3, 5, 6, 7);
        checks.due("row in place of one", clock.row(3, 2, 3), 3);
        clock.row(4, 2, 3);
        Houses.read(clock, "c0;");
        checks.due("the new items are 0: no ear gives 0", clock.who(3, 0, 3, 0), 1);
        checks.due("still one row each", clock.count(0), 2);
        clock.row(3, 0, 1);
        checks.due("the lane is the new one", clock.set(3, 0, 128), -128);
        checks.due("the size is the new one", clock.set(3, 1, 1), PLACE);
    }

    private static void promise3SetCutsToTheLane() {
        HeedClock clock = new HeedClock();
        clock.row(0, 0, 2);
        clock.row(1, 1, 2);
        clock.row(2, 2, 2);
        checks.due("byte 127", clock.set(0, 0, 127), 127);
        checks.due("byte 128", clock.set(0, 0, 128), -128);
        checks.due("byte 256", clock.set(0, 0, 256), 0);
        checks.due("byte -129", clock.set(0, 1, -129), 127);
        checks.due("short 32767", clock.set(1, 0, 32767), 32767);
        checks.due("short 32768", clock.set(1, 0, 32768), -32768);
        checks.due("short 65536", clock.set(1, 1, 65536), 0);
        checks.due("int most", clock.set(2, 0, FAR), FAR);
        checks.due("int least", clock.set(2, 1, LOW), LOW);
    }

    private static void promise3SetRefuses() {
        HeedClock clock = new HeedClock();
        clock.row(0, 2, 2);
        checks.due("row -1", clock.set(-1, 0, 1), BAD);
        checks.due("row 8", clock.set(8, 0, 1), BAD);
        checks.due("missing row", clock.set(1, 0, 1), NULL);
        checks.due("NULL ahead of PLACE", clock.set(1, -1, 1), NULL);
        checks.due("place -1", clock.set(0, -1, 1), PLACE);
        checks.due("place 2 of 2", clock.set(0, 2, 1), PLACE);
        checks.due("far place", clock.set(0, FAR, 1), PLACE);
        checks.due("low place", clock.set(0, LOW, 1), PLACE);
        clock.row(0, 2, 0);
        checks.due("place 0 of none", clock.set(0, 0, 1), PLACE);
    }

    private static void promise4Copy() {
        HeedClock clock = Houses.of("c0;p1,0,0,1;p2,0,1,1;p3,0,2,1;");
        Houses.row(clock, 0, 9, 1, 2, 3);
        Houses.row(clock, 1, 7, 7, 7, 7);
        checks.due("what was in the way fits nobody", clock.who(1, 0, 3, 0), 0);
        checks.due("copy of 3", clock.copy(0, 1, 1, 0, 3), 3);
        checks.due("1 2 3 came over", clock.who(1, 0, 3, 1), 7);
        checks.due("the last is as it was", clock.who(1, 3, 1, 0), 0);
        checks.due("1 2 3 stayed, too", clock.who(0, 1, 3, 1), 7);
        checks.due("copy of none at the ends", clock.copy(0, 4, 1, 4, 0), 0);
        clock.row(2, 2, 0);
        checks.due("copy of none of none", clock.copy(2, 0, 2, 0, 0), 0);
    }

    private static void promise4CopyOverlaps() {
        HeedClock clock = Houses.of("c0;p1,0,0,1;p2,0,1,1;p3,0,2,1;");
        Houses.row(clock, 0, 1, 2, 3, 0, 0);
        checks.due("copy onwards", clock.copy(0, 0, 0, 1, 3), 3);
        checks.due("1 2 3 from place 1 on", clock.who(0, 1, 3, 1), 7);
        checks.due("copy backwards", clock.copy(0, 1, 0, 0, 3), 3);
        checks.due("1 2 3 from place 0 on", clock.who(0, 0, 3, 1), 7);
    }

    private static void promise4CopyRefuses() {
        HeedClock clock = new HeedClock();
        clock.row(0, 0, 4);
        clock.row(1, 1, 4);
        clock.row(2, 0, 2);
        checks.due("row a -1", clock.copy(-1, 0, 0, 0, 1), BAD);
        checks.due("row b 8", clock.copy(0, 0, 8, 0, 1), BAD);
        checks.due("BAD ahead of NULL", clock.copy(5, 0, 8, 0, 1), BAD);
        checks.due("a is missing", clock.copy(5, 0, 0, 0, 1), NULL);
        checks.due("b is missing", clock.copy(0, 0, 5, 0, 1), NULL);
        checks.due("NULL ahead of PLACE", clock.copy(0, -1, 5, 0, 1), NULL);
        checks.due("two lanes", clock.copy(0, 0, 1, 0, 1), STORE);
        checks.due("two lanes, even of none", clock.copy(0, 0, 1, 0, 0), STORE);
        checks.due("STORE ahead of PLACE", clock.copy(0, 9, 1, 0, 1), STORE);
        checks.due("i below 0", clock.copy(0, -1, 2, 0, 1), PLACE);
        checks.due("j below 0", clock.copy(0, 0, 2, -1, 1), PLACE);
        checks.due("n below 0", clock.copy(0, 0, 2, 0, -1), PLACE);
        checks.due("beyond the end of a", clock.copy(0, 3, 2, 0, 2), PLACE);
        checks.due("beyond the end of b", clock.copy(0, 0, 2, 1, 2), PLACE);
        checks.due("of none, but i is beyond", clock.copy(0, 5, 2, 0, 0), PLACE);
        checks.due("i and n wrap around", clock.copy(0, FAR, 2, 0, FAR), PLACE);
        checks.due("j and n wrap around", clock.copy(0, 1, 2, FAR, 1), PLACE);
        checks.due("n least", clock.copy(0, 0, 2, 0, LOW), PLACE);
    }

    private static void promise5Drop() {
        HeedClock clock = new HeedClock();
        clock.row(0, 0, 4);
        clock.row(6, 1, 0);
        checks.due("drop of 4", clock.drop(0), 4);
        checks.due("drop of none", clock.drop(6), 0);
        checks.due("no rows", clock.count(0), 0);
        checks.due("drop again", clock.drop(0), NULL);
        checks.due("set of a dropped one", clock.set(0, 0, 1), NULL);
        checks.due("drop -1", clock.drop(-1), BAD);
        checks.due("drop 8", clock.drop(8), BAD);
    }

    private static void promise34StatusOfRows() {
        HeedClock clock = new HeedClock();
        checks.due("status at first", clock.status(), 0);
        clock.row(0, 0, -1);
        checks.due("status SIZE", clock.status(), 4);
        clock.row(0, 9, 1);
        checks.due("BAD leaves status", clock.status(), 4);
        clock.row(0, 0, 1);
        checks.due("status of a row that was made", clock.status(), 0);
        clock.set(0, 1, 0);
        checks.due("status PLACE", clock.status(), 2);
        clock.set(0, 0, 0);
        checks.due("status of a set", clock.status(), 0);
        clock.row(1, 1, 1);
        clock.copy(0, 0, 1, 0, 1);
        checks.due("status STORE", clock.status(), 5);
        clock.copy(0, 0, 9, 0, 1);
        checks.due("a BAD copy leaves status", clock.status(), 5);
        clock.copy(0, 0, 0, 0, 1);
        checks.due("status of a copy", clock.status(), 0);
        clock.drop(5);
        checks.due("status NULL", clock.status(), 1);
        clock.feed('c');
        clock.count(0);
        clock.trace(0);
        checks.due("calls without a row leave status", clock.status(), 1);
        clock.who(0, 0, 1, 0);
        checks.due("a STATE leaves status", clock.status(), 1);
        clock.drop(0);
        checks.due("status of a drop", clock.status(), 0);
    }
}
