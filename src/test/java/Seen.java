import java.util.ArrayList;
import java.util.List;

/**
 * All that can be seen of a clock from outside, told line by line. To look changes the clock (acts are undone, rows
 * dropped, the tape read), so two clocks that should be alike are looked at once each, at the end.
 */
final class Seen {
    private final HeedClock clock;
    private final List<String> lines = new ArrayList<>();

    private Seen(HeedClock clock) {
        this.clock = clock;
    }

    /** Some 300 calls. */
    static List<String> of(HeedClock clock) {
        Seen seen = new Seen(clock);
        seen.tell("status", clock.status());
        seen.tell("fault", clock.fault());
        for (int i = 0; i <= 6; i++) {
            seen.tell("trace " + i, clock.trace(i));
        }
        seen.house("now");
        seen.rows();
        seen.acts();
        seen.images();
        seen.tell("house on the tape", clock.house());
        seen.tell("wool on the tape", clock.clock(3));
        return seen.lines;
    }

    private void tell(String what, int answer) {
        lines.add(what + " " + answer);
    }

    private void house(String when) {
        for (int what = 0; what <= 7; what++) {
            tell(when + ", count " + what, clock.count(what));
        }
        for (int what = 0; what <= 3; what++) {
            tell(when + ", clock " + what, clock.clock(what));
        }
        for (int ear = 0; ear < clock.count(1); ear++) {
            tell(when + ", kind of ear " + ear, clock.kind(ear));
            for (int what = 0; what <= 5; what++) {
                tell(when + ", ear " + ear + ", " + what, clock.ear(ear, what));
            }
        }
        for (int doing = 0; doing < clock.count(2); doing++) {
            tell(when + ", done " + doing, clock.done(doing));
            tell(when + ", latest " + doing, clock.latest(doing));
        }
        tell(when + ", late", clock.late());
        for (int n = 1; n <= 8; n++) {
            tell(when + ", ahead " + n, clock.ahead(n));
        }
    }

    /** An item is seen by the sets of ears that would make it so; a lane by what is left of a great number. */
    private void rows() {
        for (int row = 0; row < 8; row++) {
            for (int i = 0; i <= 3; i++) {
                tell("sets by item " + i + " of row " + row, clock.who(row, i, 1, 0));
                tell("least set by item " + i + " of row " + row, clock.who(row, i, 1, 1));
            }
            tell("lane of row " + row, clock.set(row, 0, 0x12345678));
            tell("size of row " + row, clock.drop(row));
        }
    }

    private void acts() {
        for (int i = 0; i <= 24; i++) {
            tell("undo " + i, clock.undo());
        }
        house("all undone");
    }

    private void images() {
        for (int k = 0; k <= 1; k++) {
            tell("restore " + k, clock.restore(k));
            for (int what = 0; what <= 7; what++) {
                tell("image " + k + ", count " + what, clock.count(what));
            }
            tell("image " + k + ", parts", clock.clock(0));
            tell("image " + k + ", wool", clock.clock(3));
        }
    }
}
