import java.util.Arrays;
import java.util.List;

/** Promises 6 to 8 at their boundaries: each number of a text, each byte at each place of it, how much it can hold. */
public final class TextBoundsTest {
    private static final int BAD = Houses.BAD, STATE = Houses.STATE, FULL = Houses.FULL;
    private static final String SORTS = "pwtkd";
    private static final Checks checks = new Checks("text bounds");

    public static void main(String[] args) {
        numbersOfTheLaw();
        numbersOfAnEar();
        numbersOfADoing();
        threeFigures();
        bytesAtEachPlace();
        endsAtEachPlace();
        asManyEarsAndDoingsAsThereIsRoomFor();
        ofSeveralFaultsTheFirst();
        ofOneTokenTheLeast();
        theTapeIsFull();
        theTapeIsEmptyThen();
        faultStaysTheLatest();
        aHouseInPlaceOfOne();
        checks.end();
    }

    private static void read(String text, int answer, int fault) {
        HeedClock clock = new HeedClock();
        checks.due("house of " + text, Houses.read(clock, text), answer);
        checks.due("fault of " + text, clock.fault(), fault);
        checks.due("whether a house stands by " + text, clock.clock(0), answer >= 0 ? 0 : STATE);
    }

    private static void faulty(String text, int place, int fault) {
        read(text, -1000100 - place, fault);
    }

    /** All numbers of one figure and of two, at one place of a text: taken from least to most. */
    private static void numbers(String ahead, String behind, int least, int most, int ears) {
        for (int number = 0; number <= 99; number++) {
            String[] ways = number <= 9 ? new String[] {"" + number, "0" + number} : new String[] {"" + number};
            for (String figures : ways) {
                String text = ahead + figures + behind;
                if (number >= least && number <= most) {
                    read(text, ears, 0);
                } else {
                    faulty(text, ahead.length(), 2);
                }
            }
        }
    }

    private static void numbersOfTheLaw() {
        numbers("c", ";", 0, 12, 0);
    }

    private static void numbersOfAnEar() {
        for (char sort : SORTS.toCharArray()) {
            numbers("c1;" + sort, ",3,7,8;", 1, 12, 1);
            numbers("c1;" + sort + "12,", ",7,8;", 0, 3, 1);
            numbers("c1;" + sort + "12,3,", ",8;", 0, 7, 1);
            numbers("c1;" + sort + "12,3,7,", ";", 1, 8, 1);
        }
    }

    private static void numbersOfADoing() {
        numbers("c1;x", ",40,99;", 0, 99, 0);
        numbers("c1;x99,", ",99;", 1, 40, 0);
        numbers("c1;x99,40,", ";", 0, 99, 0);
    }

    /** A third figure makes it no NUMBER at all, however small it would be. */
    private static void threeFigures() {
        String[] many = {"000", "001", "012", "100", "999", "0001", "1234567890", "99999999999999999999"};
        for (String figures : many) {
            faulty("c" + figures + ";", 1, 1);
            faulty("c1;p" + figures + ",0,0,8;", 4, 1);
            faulty("c1;p1," + figures + ",0,8;", 6, 1);
            faulty("c1;p1,0," + figures + ",8;", 8, 1);
            faulty("c1;p1,0,0," + figures + ";", 10, 1);
            faulty("c1;x" + figures + ",1,0;", 4, 1);
            faulty("c1;x0," + figures + ",0;", 6, 1);
            faulty("c1;x0,1," + figures + ";", 8, 1);
            faulty(figures, 0, 1);
            faulty("c1;" + figures, 3, 1);
        }
    }

    /** Texts that are right so far, each with the bytes that can stand behind it. */
    private static List<String[]> beginnings() {
        String figures = "0123456789";
        return List.of(new String[][] {
            {"", "c"}, {"c", figures}, {"c12", ";"},
            {"c1;", SORTS + "x"}, {"c1;p", figures}, {"c1;p12", ","},
            {"c1;p1,", figures}, {"c1;p1,03", ","}, {"c1;p1,0,", figures}, {"c1;p1,0,07", ","},
            {"c1;p1,0,0,", figures}, {"c1;p1,0,0,08", ";"}, {"c1;p1,0,0,1;", SORTS + "x"},
            {"c1;x", figures}, {"c1;x12", ","}, {"c1;x12,", figures}, {"c1;x12,40", ","},
            {"c1;x12,40,", figures}, {"c1;x12,40,99", ";"}, {"c1;x1,1,1;", "x"},
        });
    }

    /** Any other byte cannot stand there, or is none: a fault of that byte, but for a figure behind two others. */
    private static void bytesAtEachPlace() {
        for (String[] one : beginnings()) {
            String text = one[0];
            int figures = text.length() - text.replaceAll("[0-9]+$", "").length();
            for (int letter = 0; letter <= 255; letter++) {
                boolean fits = one[1].indexOf((char) letter) >= 0;
                boolean isFigure = letter >= '0' && letter <= '9';
                HeedClock clock = new HeedClock();
                Houses.feed(clock, text);
                clock.feed(letter);
                int place = isFigure && figures > 0 ? text.length() - figures : text.length();
                int answer = clock.house();
                String what = "byte " + letter + " behind " + text;
                if (!fits) {
                    checks.due(what, answer, -1000100 - place);
                    checks.due("fault of " + what, clock.fault(), 1);
                } else {
                    checks.holds(what + " can stand there, but: " + answer,
                            answer >= 0 || answer < -1000100 - place || clock.fault() == 2);
                }
            }
        }
    }

    private static void endsAtEachPlace() {
        String text = "c12;p12,3,7,8;d1,0,0,1;x99,40,99;x0,1,0;";
        List<Integer> whole = Arrays.asList(4, 14, 23, 33, 40);
        int[] ears = {0, 1, 2, 2, 2};
        for (int end = 0; end <= text.length(); end++) {
            String part = text.substring(0, end);
            if (whole.contains(end)) {
                read(part, ears[whole.indexOf(end)], 0);
            } else {
                faulty(part, end, 1);
            }
        }
    }

    private static void asManyEarsAndDoingsAsThereIsRoomFor() {
        for (char sort : SORTS.toCharArray()) {
            String six = "c1;" + (sort + "1,0,0,1;").repeat(6);
            read(six, 6, 0);
            for (char seventh : SORTS.toCharArray()) {
                faulty(six + seventh + "1,0,0,1;", 57, 3);
                faulty(six + seventh, 57, 3);
            }
            read(six + "x0,1,0;", 6, 0);
        }
        String four = "c1;" + "x0,1,0;".repeat(4);
        read(four, 0, 0);
        faulty(four + "x0,1,0;", 31, 3);
        faulty(four + "x", 31, 3);
        String both = "c1;" + "p1,0,0,1;".repeat(6) + "x0,1,0;".repeat(4);
        read(both, 6, 0);
        faulty(both + "x", 85, 3);
    }

    private static void ofSeveralFaultsTheFirst() {
        faulty("c13;q", 1, 2);
        faulty("c13", 1, 2);
        faulty("c1;p0,4,8,9", 4, 2);
        faulty("c1;p1,4,8,9", 6, 2);
        faulty("c1;p1,0,8,9", 8, 2);
        faulty("c1;x0,41,100;", 6, 2);
        faulty("c1," + "p1,0,0,1;".repeat(7), 2, 1);
        faulty("c13;" + "p1,0,0,1;".repeat(7), 1, 2);
        faulty("c1;" + "p1,0,0,1;".repeat(7) + "q", 57, 3);
        faulty("c1;" + "p1,0,0,1;".repeat(6) + "p0", 57, 3);
    }

    /** An ear behind a doing cannot stand there, even if it is one too many as well. */
    private static void ofOneTokenTheLeast() {
        String six = "c1;" + "p1,0,0,1;".repeat(6);
        faulty(six + "x0,1,0;p", 64, 1);
        faulty(six + "c", 57, 1);
        faulty(six + ";", 57, 1);
        faulty(six + "7", 57, 1);
        faulty("c1;" + "x0,1,0;".repeat(4) + "k", 31, 1);
        faulty("c1;" + "x0,1,0;".repeat(4) + "c1;", 31, 1);
        faulty("c1;p13;", 4, 2);
        faulty("c1;p;", 4, 1);
        faulty("c99", 1, 2);
    }

    /** 120 bytes that are a whole house; a byte more does not come. */
    private static void theTapeIsFull() {
        String text = "c12;" + "p12,03,07,08;".repeat(6) + "x99,40,99;".repeat(2) + "x99,40,9;".repeat(2);
        checks.due("120 bytes", text.length(), 120);
        read(text, 6, 0);
        HeedClock clock = new HeedClock();
        for (int i = 1; i <= 120; i++) {
            checks.due("byte " + i, clock.feed(text.charAt(i - 1)), i);
        }
        checks.due("byte 121", clock.feed('x'), FULL);
        checks.due("byte 121, 0", clock.feed(0), FULL);
        checks.due("no byte, -1", clock.feed(-1), BAD);
        checks.due("no byte, 256", clock.feed(256), BAD);
        checks.due("120 yet", clock.count(7), 120);
        checks.due("what was refused is not read", clock.house(), 6);
        checks.due("4 doings", clock.count(2), 4);
        checks.due("the last is due on 9: never", clock.late() >> 3, 1);
        faulty("c12;" + "p12,03,07,08;".repeat(6) + "x99,40,99;".repeat(3) + "x99,40,9", 120, 1);
    }

    private static void theTapeIsEmptyThen() {
        HeedClock clock = new HeedClock();
        checks.due("a house", Houses.read(clock, "c1;"), 0);
        checks.due("no bytes", clock.count(7), 0);
        checks.due("nothing on the tape", clock.house(), -1000100);
        checks.due("fault 1", clock.fault(), 1);
        checks.due("the house stands yet", clock.clock(3), 1);
        checks.due("a fault", Houses.read(clock, "c2;q"), -1000103);
        checks.due("no bytes, either", clock.count(7), 0);
        checks.due("the first byte again", clock.feed('c'), 1);
        checks.due("wool stays", clock.clock(3), 1);
    }

    private static void faultStaysTheLatest() {
        HeedClock clock = new HeedClock();
        checks.due("before one", clock.fault(), 0);
        checks.due("a house", Houses.read(clock, "c1;"), 0);
        checks.due("none yet", clock.fault(), 0);
        checks.due("too many", Houses.read(clock, "c1;" + "x0,1,0;".repeat(5)), -1000131);
        checks.due("3", clock.fault(), 3);
        checks.due("a house", Houses.read(clock, "c1;"), 0);
        checks.due("3 stays", clock.fault(), 3);
        checks.due("asked twice", clock.fault(), 3);
        checks.due("13", Houses.read(clock, "c13;"), -1000101);
        checks.due("2", clock.fault(), 2);
    }

    /** All that the document says of a house that is read: QUARTER 0, 0 PARTS, none HUSHED, LIVED 0, no ACT. */
    private static void aHouseInPlaceOfOne() {
        String text = "c3;p12,0,0,8;p11,1,0,8;x5,1,9;";
        HeedClock clock = Houses.of("c0;" + "w12,0,0,8;".repeat(6) + "x0,1,0;".repeat(4));
        clock.quarters(7);
        clock.hush(0, 1);
        clock.hush(5, 1);
        clock.go(1, 3);
        clock.wool(9);
        checks.due("11 acts", clock.count(6), 11);
        checks.due("ears", Houses.read(clock, text), 2);
        int[] counts = {0, 2, 1, 0, 0, 1, 0, 0};
        for (int what = 0; what <= 7; what++) {
            checks.due("count " + what, clock.count(what), counts[what]);
        }
        int[] seen = {0, 0, 9, 3};
        for (int what = 0; what <= 3; what++) {
            checks.due("clock " + what, clock.clock(what), seen[what]);
        }
        int[][] ears = {{12, 0, 0, 1, 9, 0}, {11, 1, 0, 0, 0, 0}};
        for (int ear = 0; ear < 2; ear++) {
            for (int what = 0; what <= 5; what++) {
                checks.due("ear " + ear + ", " + what, clock.ear(ear, what), ears[ear][what]);
            }
        }
        checks.due("no third ear", clock.ear(2, 0), BAD);
        checks.due("nothing to undo", clock.undo(), STATE);
        checks.due("12 from 5 on", clock.done(0), 7);
        checks.due("no second doing", clock.done(1), BAD);
        checks.due("the past is another's", Houses.read(clock, "c0;p12,0,0,8;x0,1,0;"), 1);
        checks.due("12 from 0 on", clock.done(0), 1);
    }
}
