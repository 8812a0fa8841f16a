/** Clocks with a house that was told in a text. */
final class Houses {
    static final int NONE = -1000000, BAD = -1000001, STATE = -1000002, FULL = -1000003;
    static final int NULL = -1000011, PLACE = -1000012, KIND = -1000013, SIZE = -1000014, STORE = -1000015;

    /** One of each sort, and a person in another room; three doings. */
    static final String ALL_SORTS = "c1;p9,0,0,8;w7,0,0,8;t8,0,2,4;k12,0,6,3;d5,0,0,8;p4,1,0,8;"
            + "x0,3,5;x2,10,20;x50,4,40;";

    private Houses() {
    }

    static void feed(HeedClock clock, String text) {
        for (int i = 0; i < text.length(); i++) {
            clock.feed(text.charAt(i));
        }
    }

    static int read(HeedClock clock, String text) {
        feed(clock, text);
        return clock.house();
    }

    static HeedClock of(String text) {
        HeedClock clock = new HeedClock();
        if (read(clock, text) < 0) {
            throw new IllegalStateException("no house: " + text);
        }
        return clock;
    }

    /** A row of ints with these items. */
    static void row(HeedClock clock, int row, int... items) {
        clock.row(row, 2, items.length);
        for (int i = 0; i < items.length; i++) {
            clock.set(row, i, items[i]);
        }
    }
}
