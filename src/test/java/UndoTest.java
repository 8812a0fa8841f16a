import java.util.ArrayList;
import java.util.List;

/** Promise 13 and the ACTS: what is undone is as it was ahead of it, in all that can be seen; 24 are kept, not 25. */
public final class UndoTest {
    private static final int STATE = Houses.STATE;
    private static final Checks checks = new Checks("undo");

    public static void main(String[] args) {
        eachActUndone();
        manyActsUndoneOneByOne();
        twentyFourAreKept();
        theOldestIsForgotten();
        forgottenInTheMidst();
        quartersAreAnActEach();
        whatIsNoAct();
        whatForgetsAllActs();
        theSameWoolIsAnAct();
        checks.end();
    }

    /** Small, so that all of it can be seen within an object's calls. */
    private static HeedClock scene() {
        HeedClock clock = Houses.of("c1;p9,0,0,8;w7,1,0,8;t8,0,2,4;k12,2,6,3;x0,3,5;x3,2,9;");
        clock.quarters(2);
        clock.hush(2, 1);
        clock.as(0, 2);
        return clock;
    }

    private static HeedClock after(List<Call> calls, int many) {
        HeedClock clock = scene();
        for (int i = 0; i < many; i++) {
            calls.get(i).of(clock);
        }
        return clock;
    }

    private static List<Call> acts() {
        List<Call> acts = new ArrayList<>();
        for (int ear = 0; ear < 4; ear++) {
            int one = ear;
            for (int room = 0; room <= 3; room++) {
                int to = room;
                acts.add(clock -> clock.go(one, to));
            }
            acts.add(clock -> clock.hush(one, 1));
            acts.add(clock -> clock.hush(one, 0));
        }
        for (int wool = 0; wool <= 12; wool++) {
            int more = wool;
            acts.add(clock -> clock.wool(more));
        }
        acts.add(clock -> clock.quarters(1));
        return acts;
    }

    private static void eachActUndone() {
        List<String> untouched = Seen.of(scene());
        int kept = scene().count(6);
        int number = 0;
        for (Call act : acts()) {
            HeedClock clock = scene();
            int answer = act.of(clock);
            if (answer != STATE) {
                checks.due("one act more, " + number, clock.count(6), kept + 1);
                checks.due("undone, act " + number, clock.undo(), kept);
            }
            checks.holds("all as it was ahead of act " + number, Seen.of(clock).equals(untouched));
            number++;
        }
    }

    /** Acts of all sorts, mixed, no two neighbours alike, so that none is taken back by another's numbers. */
    private static List<Call> mixed() {
        return List.of(
                clock -> clock.go(1, 0), clock -> clock.wool(3), clock -> clock.quarters(1),
                clock -> clock.hush(2, 0), clock -> clock.go(0, 3), clock -> clock.quarters(1),
                clock -> clock.go(3, 1), clock -> clock.hush(1, 1), clock -> clock.wool(0),
                clock -> clock.go(3, 0), clock -> clock.quarters(1), clock -> clock.go(0, 1),
                clock -> clock.hush(3, 1), clock -> clock.quarters(1), clock -> clock.wool(12),
                clock -> clock.hush(1, 0), clock -> clock.go(0, 0), clock -> clock.wool(2),
                clock -> clock.quarters(1), clock -> clock.hush(3, 0), clock -> clock.go(2, 1));
    }

    private static void manyActsUndoneOneByOne() {
        List<Call> calls = mixed();
        checks.due("with 3 acts of the scene", after(calls, calls.size()).count(6), 24);
        for (int left = calls.size(); left >= 0; left--) {
            HeedClock clock = after(calls, calls.size());
            for (int i = calls.size(); i > left; i--) {
                checks.due("undone", clock.undo(), i - 1 + 3);
            }
            checks.holds("as behind " + left + " acts", Seen.of(clock).equals(Seen.of(after(calls, left))));
        }
    }

    private static void twentyFourAreKept() {
        HeedClock clock = Houses.of("c0;p1,0,0,8;");
        checks.due("none at first", clock.undo(), STATE);
        for (int i = 1; i <= 30; i++) {
            clock.wool(i % 13);
            checks.due("kept behind " + i, clock.count(6), Math.min(i, 24));
        }
        for (int left = 23; left >= 0; left--) {
            checks.due("can be undone yet", clock.undo(), left);
            checks.due("counted", clock.count(6), left);
            checks.due("wool behind " + (6 + left), clock.clock(3), (6 + left) % 13);
        }
        checks.due("none more", clock.undo(), STATE);
        checks.due("as behind the sixth", clock.clock(3), 6);
    }

    /** 24 acts are undone wholly, of 25 the first stays. */
    private static void theOldestIsForgotten() {
        for (int many = 23; many <= 25; many++) {
            HeedClock clock = Houses.of("c0;p1,0,0,8;p1,1,0,8;");
            clock.go(0, 2);
            for (int i = 2; i <= many; i++) {
                clock.hush(1, i % 2 == 0 ? 1 : 0);
            }
            checks.due("kept of " + many, clock.count(6), Math.min(many, 24));
            for (int i = 0; i < 25; i++) {
                clock.undo();
            }
            checks.due("room of ear 0, undone of " + many, clock.ear(0, 1), many == 25 ? 2 : 0);
            checks.due("none is hushed, undone of " + many, clock.count(4), 0);
        }
    }

    /** Ears and what was before stay with their acts as the oldest are forgotten, one at a time. */
    private static void forgottenInTheMidst() {
        int[] ears = {0, 3, 1, 4, 2, 5, 5, 0, 2, 1, 3, 0, 4, 2, 2, 5, 1, 3, 0, 4, 1, 5, 3, 2, 0, 1, 4, 4, 0, 3, 5, 2};
        HeedClock clock = Houses.of("c0;" + "p1,0,0,8;".repeat(6));
        int[][] rooms = new int[ears.length + 1][6];
        for (int i = 0; i < ears.length; i++) {
            rooms[i + 1] = rooms[i].clone();
            rooms[i + 1][ears[i]] = (rooms[i][ears[i]] + 1 + i % 3) % 4;
            checks.due("where it was, act " + i, clock.go(ears[i], rooms[i + 1][ears[i]]), rooms[i][ears[i]]);
        }
        for (int i = ears.length - 1; i >= ears.length - 24; i--) {
            clock.undo();
            for (int ear = 0; ear < 6; ear++) {
                checks.due("room of " + ear + " ahead of act " + i, clock.ear(ear, 1), rooms[i][ear]);
            }
        }
        checks.due("none more", clock.undo(), STATE);
    }

    private static void quartersAreAnActEach() {
        for (int n = 1; n <= 20; n++) {
            HeedClock clock = Houses.of("c0;p1,0,0,8;p1,1,0,8;");
            clock.quarters(n);
            checks.due("acts of quarters " + n, clock.count(6), n);
            checks.due("one is undone", clock.undo(), n - 1);
            checks.due("the others are not", clock.count(3), n - 1);
            checks.due("parts", clock.clock(0), n - 1);
            checks.due("lived by the clock", clock.ear(0, 5), n - 1);
            checks.due("lived by the sun", clock.ear(1, 5), 12 * (n - 1));
        }
        HeedClock clock = Houses.of("c0;p1,0,0,8;");
        clock.quarters(20);
        clock.quarters(4);
        checks.due("24", clock.count(6), 24);
        clock.quarters(1);
        checks.due("24 of 25", clock.count(6), 24);
        while (clock.count(6) > 0) {
            clock.undo();
        }
        checks.due("quarter 1 stays", clock.count(3), 1);
        checks.due("so does its part", clock.clock(0), 1);
    }

    private static void whatIsNoAct() {
        HeedClock clock = scene();
        clock.row(0, 2, 3);
        clock.set(0, 0, 5);
        clock.row(1, 2, 3);
        clock.copy(0, 0, 1, 0, 1);
        clock.drop(1);
        clock.feed('c');
        clock.ahead(9);
        clock.whenShows(9);
        clock.done(0);
        clock.late();
        clock.latest(0);
        clock.toHush(0, 9, 1);
        clock.toCall(9, 9, 1);
        clock.who(0, 0, 3, 0);
        clock.heed(0, 0, 0, 3);
        clock.older(0, 1, 9);
        clock.odds(1, 5, 0);
        clock.image(1);
        clock.as(0, 1);
        clock.ask(0, 0);
        checks.due("3 acts yet", clock.count(6), 3);
        checks.due("the latest is the hush", clock.undo(), 2);
        checks.due("not hushed any more", clock.count(4), 0);
        checks.due("the row stays", clock.drop(0), 3);
        checks.due("so does the tape", clock.count(7), 1);
    }

    private static void whatForgetsAllActs() {
        HeedClock restored = scene();
        restored.image(0);
        restored.quarters(1);
        restored.restore(0);
        checks.due("restore forgets", restored.count(6), 0);
        checks.due("none", restored.undo(), STATE);
        restored.quarters(1);
        checks.due("acts behind it are kept", restored.undo(), 0);
        HeedClock another = scene();
        Houses.read(another, "c0;p1,0,0,8;");
        checks.due("a house forgets", another.undo(), STATE);
        another.wool(3);
        checks.due("acts in it are kept", another.undo(), 0);
        checks.due("none more", another.undo(), STATE);
        HeedClock faulty = scene();
        Houses.read(faulty, "c0;p1,0,0,9;");
        checks.due("a fault does not forget", faulty.undo(), 2);
    }

    /** The promise refuses no wool that is there already, so it is an act as any other; NOTES.md tells of it. */
    private static void theSameWoolIsAnAct() {
        HeedClock clock = Houses.of("c4;p9,0,0,8;");
        checks.due("what it was", clock.wool(4), 4);
        checks.due("an act", clock.count(6), 1);
        checks.due("undone", clock.undo(), 0);
        checks.due("4 yet", clock.clock(3), 4);
    }
}
