/** Section 2 of the document at its boundaries: who listens when, what each gives, how old all grow, what is shown. */
public final class HeedingTest {
    private static final int STATE = Houses.STATE, FULL = Houses.FULL;
    private static final Checks checks = new Checks("heeding");

    public static void main(String[] args) {
        eachFromAndLongInEachQuarter();
        listensOnlyInRoom0AndNotHushed();
        eachHeedByEachWool();
        widowersBy11And12();
        whoIsCountedAgainstWidowers();
        widowersByWool();
        showsBy12();
        livedByClockAndSun();
        livedWhileGoing();
        theGreatestNumbers();
        checks.end();
    }

    private static boolean attends(int from, int span, int quarter) {
        for (int next = from; next < from + span; next++) {
            if (next % 8 == quarter % 8) {
                return true;
            }
        }
        return false;
    }

    /** Every FROM with every LONG, two rounds of quarters from 0 on and the last one before 999. */
    private static void eachFromAndLongInEachQuarter() {
        for (int from = 0; from <= 7; from++) {
            for (int half = 0; half <= 1; half++) {
                StringBuilder text = new StringBuilder("c0;");
                for (int i = 1; i <= 4; i++) {
                    text.append("p").append(i).append(",0,").append(from).append(',').append(4 * half + i).append(';');
                }
                HeedClock clock = Houses.of(text.toString());
                for (int quarter = 0; quarter <= 17; quarter++) {
                    listening(clock, from, half, quarter);
                    clock.quarters(1);
                }
                for (int i = 0; i < 48; i++) {
                    clock.quarters(20);
                }
                clock.quarters(13);
                for (int quarter = 991; quarter <= 999; quarter++) {
                    checks.due("quarter", clock.count(3), quarter);
                    listening(clock, from, half, quarter);
                    clock.quarters(1);
                }
                checks.due("none beyond", clock.quarters(1), FULL);
            }
        }
    }

    private static void listening(HeedClock clock, int from, int half, int quarter) {
        int goes = 0;
        for (int i = 1; i <= 4; i++) {
            int span = 4 * half + i;
            boolean is = attends(from, span, quarter);
            String who = "from " + from + ", long " + span + ", in " + quarter;
            checks.due("listens " + who, clock.ear(i - 1, 3), is ? 1 : 0);
            checks.due("gives " + who, clock.ear(i - 1, 4), is ? i : 0);
            goes += is ? i : 0;
        }
        checks.due("goes in " + quarter + " from " + from, clock.clock(2), goes);
    }

    private static void listensOnlyInRoom0AndNotHushed() {
        for (int room = 0; room <= 3; room++) {
            for (int hushed = 0; hushed <= 1; hushed++) {
                for (int from = 0; from <= 1; from++) {
                    HeedClock clock = Houses.of("c0;p5," + room + "," + from + ",1;");
                    clock.hush(0, hushed);
                    int is = room == 0 && hushed == 0 && from == 0 ? 1 : 0;
                    String who = "in room " + room + ", hushed " + hushed + ", from " + from;
                    checks.due("listens " + who, clock.ear(0, 3), is);
                    checks.due("gives " + who, clock.ear(0, 4), 5 * is);
                    checks.due("the clock goes " + who, clock.clock(2), 5 * is);
                    checks.due("parts " + who, clock.quarters(1), 5 * is);
                }
            }
        }
    }

    /** What is left of HEED is all of a person's and a widower's gift, half of a thief's, half or 3 of a cat's. */
    private static void eachHeedByEachWool() {
        int[] halves = {0, 0, 1, 1, 2, 2, 3, 3, 4, 4, 5, 5, 6};
        int[] ofCats = {0, 0, 1, 1, 2, 2, 3, 3, 3, 3, 3, 3, 3};
        for (int heed = 1; heed <= 12; heed++) {
            for (int wool = 0; wool <= 12; wool++) {
                int left = Math.max(0, heed - wool);
                gives('p', heed, wool, left);
                gives('w', heed, wool, left);
                gives('t', heed, wool, halves[left]);
                gives('k', heed, wool, ofCats[left]);
                gives('d', heed, wool, 0);
            }
        }
    }

    private static void gives(char sort, int heed, int wool, int due) {
        String text = "c" + wool + ";" + sort + heed + ",0,0,8;";
        HeedClock clock = Houses.of(text);
        checks.due("gives by " + text, clock.ear(0, 4), due);
        checks.due("goes by " + text, clock.clock(2), due);
        checks.due("heed by " + text, clock.ear(0, 0), heed);
        checks.due("listens by " + text, clock.ear(0, 3), 1);
        checks.due("wool by " + text, clock.clock(3), wool);
    }

    /** A widower of 5 behind others of so much, and ahead of them. */
    private static void widower(String others, int ofOthers) {
        int gives = ofOthers >= 12 ? 0 : 5;
        HeedClock behind = Houses.of("c0;w5,0,0,8;" + others);
        checks.due("the widower ahead of " + others, behind.ear(0, 4), gives);
        checks.due("all, the widower ahead of " + others, behind.clock(2), ofOthers + gives);
        checks.due("a quarter of " + others, behind.quarters(1), ofOthers + gives);
        HeedClock ahead = Houses.of("c0;" + others + "w5,0,0,8;");
        int last = ahead.count(1) - 1;
        checks.due("the widower behind " + others, ahead.ear(last, 4), gives);
        checks.due("the widower listens behind " + others, ahead.ear(last, 3), 1);
        checks.due("all, the widower behind " + others, ahead.clock(2), ofOthers + gives);
    }

    private static void widowersBy11And12() {
        widower("", 0);
        widower("p10,0,0,8;", 10);
        widower("p11,0,0,8;", 11);
        widower("p12,0,0,8;", 12);
        widower("p6,0,0,8;p5,0,0,8;", 11);
        widower("p6,0,0,8;p6,0,0,8;", 12);
        widower("p7,0,0,8;p6,0,0,8;", 13);
        widower("t12,0,0,8;t11,0,0,8;", 11);
        widower("t12,0,0,8;t12,0,0,8;", 12);
        widower("p8,0,0,8;k12,0,0,8;", 11);
        widower("p9,0,0,8;k12,0,0,8;", 12);
        widower("k12,0,0,8;k12,0,0,8;k12,0,0,8;k5,0,0,8;", 11);
        widower("k12,0,0,8;k12,0,0,8;k12,0,0,8;k6,0,0,8;", 12);
        widower("p11,0,0,8;d12,0,0,8;", 11);
    }

    /** Neither other widowers, nor who does not listen now. */
    private static void whoIsCountedAgainstWidowers() {
        HeedClock widowers = Houses.of("c0;w12,0,0,8;w12,0,0,8;w12,0,0,8;p11,0,0,8;");
        checks.due("three widowers and 11", widowers.clock(2), 47);
        checks.due("the first gives", widowers.ear(0, 4), 12);
        widower("p12,1,0,8;", 0);
        widower("p12,0,1,7;", 0);
        widower("p11,0,0,8;p12,3,0,8;", 11);
        widower("p11,0,0,8;p1,0,7,1;", 11);
        widower("p11,0,0,8;p1,0,7,2;", 12);
        HeedClock hushed = Houses.of("c0;w5,0,0,8;p12,0,0,8;");
        checks.due("silenced", hushed.ear(0, 4), 0);
        hushed.hush(1, 1);
        checks.due("not by who is hushed", hushed.ear(0, 4), 5);
        hushed.hush(1, 0);
        checks.due("again", hushed.ear(0, 4), 0);
        hushed.go(1, 1);
        checks.due("not by who is gone", hushed.ear(0, 4), 5);
    }

    private static void widowersByWool() {
        HeedClock clock = Houses.of("c0;w12,0,0,8;p7,0,0,8;p7,0,0,8;");
        checks.due("14 silence", clock.clock(2), 14);
        clock.wool(1);
        checks.due("12 silence", clock.clock(2), 12);
        clock.wool(2);
        checks.due("10 do not, the widower gives 10", clock.clock(2), 20);
    }

    private static void showsBy12() {
        HeedClock clock = Houses.of("c0;p1,0,0,8;");
        for (int parts = 0; parts <= 48; parts++) {
            checks.due("parts", clock.clock(0), parts);
            checks.due("shows of " + parts, clock.clock(1), parts < 12 ? 0 : parts < 24 ? 1 : parts < 36 ? 2
                    : parts < 48 ? 3 : 4);
            clock.quarters(1);
        }
    }

    private static void livedByClockAndSun() {
        HeedClock clock = Houses.of("c0;p7,0,0,1;d1,0,5,1;k3,1,0,8;t3,2,0,8;w3,3,0,8;p1,0,0,1;");
        clock.hush(5, 1);
        clock.quarters(1);
        int[] first = {7, 7, 12, 12, 12, 7};
        for (int ear = 0; ear < 6; ear++) {
            checks.due("lived, ear " + ear, clock.ear(ear, 5), first[ear]);
        }
        clock.quarters(1);
        int[] second = {7, 7, 24, 24, 24, 7};
        for (int ear = 0; ear < 6; ear++) {
            checks.due("lived as the clock stood, ear " + ear, clock.ear(ear, 5), second[ear]);
        }
    }

    private static void livedWhileGoing() {
        HeedClock clock = Houses.of("c0;p7,0,0,8;p2,1,0,8;");
        clock.quarters(2);
        clock.go(1, 2);
        checks.due("to go takes no time", clock.ear(1, 5), 24);
        clock.quarters(1);
        clock.go(1, 0);
        clock.quarters(1);
        checks.due("three by the sun, one by the clock", clock.ear(1, 5), 36 + 9);
        clock.go(0, 3);
        clock.quarters(1);
        checks.due("7, 7, 7, 9, then the sun's", clock.ear(0, 5), 30 + 12);
        checks.due("2 alone", clock.ear(1, 5), 36 + 9 + 2);
        checks.due("parts", clock.clock(0), 32);
    }

    /** Six that give 12 each, up to QUARTER 999. */
    private static void theGreatestNumbers() {
        HeedClock clock = Houses.of("c0;" + "p12,0,0,8;".repeat(6));
        checks.due("72 a quarter", clock.clock(2), 72);
        for (int i = 0; i < 49; i++) {
            clock.quarters(20);
        }
        checks.due("parts", clock.quarters(19), 71928);
        checks.due("shows", clock.clock(1), 5994);
        checks.due("lived", clock.ear(5, 5), 71928);
        checks.due("99 more foretold", clock.ahead(99), 71928 + 99 * 72);
        checks.due("asked of the last", clock.ask(5, 1), 71928 + 5);
        clock.image(0);
        clock.restore(0);
        checks.due("nothing to undo", clock.undo(), STATE);
        checks.due("quarter", clock.count(3), 999);
        checks.due("all shown long ago", clock.whenShows(999), 0);
    }
}
