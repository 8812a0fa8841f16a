import java.util.ArrayList;
import java.util.Arrays;
import java.util.List;
import java.util.function.IntPredicate;
import java.util.regex.Matcher;
import java.util.regex.Pattern;

/**
 * The document once more, as slow and as plain as can be, and by other means than HeedClock: true arrays and casts
 * whose exceptions are the findings, true inheritance for the asks, whole copies of the house for what is foretold
 * and undone, a text cut into tokens by patterns. RandomRunsTest holds the two against each other.
 */
final class ClockModel {
    static final int NONE = -1000000, BAD = -1000001, STATE = -1000002, FULL = -1000003;

    private final Object[] rows = new Object[8];
    private final StringBuilder tape = new StringBuilder();
    private House house = null;
    private final House[] images = new House[2];
    private final List<House> befores = new ArrayList<>();
    private final List<Integer> trace = new ArrayList<>();
    private int fault = 0;
    private int status = 0;

    /** An ear as it is asked, and what it would give if it listened and no widower were silenced. */
    private interface Ear {
        Told told();

        default int size() {
            told().trace.add(10);
            return told().heed;
        }

        default int mark() {
            told().trace.add(20);
            return told().number;
        }

        int gives(int left);
    }

    private static final class Told {
        int number, heed, room, from, span, lived;
        boolean hushed;
        List<Integer> trace;
    }

    private static class Person implements Ear {
        private final Told told;

        Person(Told told) {
            this.told = told;
        }

        @Override
        public Told told() {
            return told;
        }

        @Override
        public int size() {
            told.trace.add(11);
            int lent = Ear.super.size();
            return lent + mark();
        }

        @Override
        public int mark() {
            told.trace.add(21);
            return Ear.super.mark() + told.lived;
        }

        @Override
        public int gives(int left) {
            return left;
        }
    }

    private static final class Widower extends Person {
        Widower(Told told) {
            super(told);
        }

        @Override
        public int size() {
            told().trace.add(12);
            return 0 - super.size();
        }

        @Override
        public int mark() {
            told().trace.add(24);
            return super.mark() * 2;
        }
    }

    private static final class Thief extends Person {
        Thief(Told told) {
            super(told);
        }

        @Override
        public int mark() {
            told().trace.add(22);
            return super.mark() - 1000;
        }

        @Override
        public int gives(int left) {
            return left / 2;
        }
    }

    private static class Cat implements Ear {
        private final Told told;

        Cat(Told told) {
            this.told = told;
        }

        @Override
        public Told told() {
            return told;
        }

        @Override
        public int size() {
            told.trace.add(13);
            return Ear.super.size() - 100;
        }

        @Override
        public int mark() {
            told.trace.add(23);
            int lent = Ear.super.mark();
            return lent - size();
        }

        @Override
        public int gives(int left) {
            return Math.min(3, left / 2);
        }
    }

    private static final class Deaf extends Cat {
        Deaf(Told told) {
            super(told);
        }

        @Override
        public int size() {
            told().trace.add(14);
            return super.size() * 2;
        }

        @Override
        public int gives(int left) {
            return 0;
        }
    }

    private static final class House {
        int wool, parts;
        List<Ear> ears = new ArrayList<>();
        List<int[]> doings = new ArrayList<>();
        /** PARTS at the begin of each QUARTER up to this one. */
        List<Integer> gone = new ArrayList<>(List.of(0));

        int quarter() {
            return gone.size() - 1;
        }

        House copy() {
            House other = new House();
            other.wool = wool;
            other.parts = parts;
            for (Ear ear : ears) {
                Told from = ear.told();
                Told to = new Told();
                to.number = from.number;
                to.heed = from.heed;
                to.room = from.room;
                to.from = from.from;
                to.span = from.span;
                to.lived = from.lived;
                to.hushed = from.hushed;
                to.trace = from.trace;
                other.ears.add(sameKind(ear, to));
            }
            other.doings.addAll(doings);
            other.gone = new ArrayList<>(gone);
            return other;
        }

        private static Ear sameKind(Ear ear, Told told) {
            if (ear instanceof Widower) {
                return new Widower(told);
            }
            if (ear instanceof Thief) {
                return new Thief(told);
            }
            if (ear instanceof Deaf) {
                return new Deaf(told);
            }
            return ear instanceof Cat ? new Cat(told) : new Person(told);
        }

        boolean listens(Ear ear) {
            Told told = ear.told();
            if (told.room != 0 || told.hushed) {
                return false;
            }
            for (int next = 0; next < told.span; next++) {
                if ((told.from + next) % 8 == quarter() % 8) {
                    return true;
                }
            }
            return false;
        }

        int gives(Ear ear) {
            if (!listens(ear)) {
                return 0;
            }
            if (ear instanceof Widower) {
                int others = 0;
                for (Ear other : ears) {
                    others += other instanceof Widower ? 0 : gives(other);
                }
                if (others >= 12) {
                    return 0;
                }
            }
            return ear.gives(Math.max(0, ear.told().heed - wool));
        }

        int goes() {
            int all = 0;
            for (Ear ear : ears) {
                all += gives(ear);
            }
            return all;
        }

        void pass() {
            int goes = goes();
            for (Ear ear : ears) {
                ear.told().lived += ear.told().room == 0 ? goes : 12;
            }
            parts += goes;
            gone.add(parts);
        }

        House after(int n) {
            House later = copy();
            for (int i = 0; i < n; i++) {
                later.pass();
            }
            return later;
        }

        Told told(int ear) {
            return ears.get(ear).told();
        }
    }

    // ---- rows

    int row(int row, int lane, int n) {
        if (row < 0 || row > 7 || lane < 0 || lane > 2 || n > 40) {
            return BAD;
        }
        try {
            rows[row] = lane == 0 ? new byte[n] : lane == 1 ? new short[n] : (Object) new int[n];
            return found(0, n);
        } catch (NegativeArraySizeException e) {
            return found(4, 0);
        }
    }

    int set(int row, int i, int v) {
        if (row < 0 || row > 7) {
            return BAD;
        }
        try {
            if (rows[row] instanceof byte[] bytes) {
                bytes[i] = (byte) v;
            } else if (rows[row] instanceof short[] shorts) {
                shorts[i] = (short) v;
            } else {
                ((int[]) rows[row])[i] = v;
            }
            return found(0, item(row, i));
        } catch (NullPointerException e) {
            return found(1, 0);
        } catch (ArrayIndexOutOfBoundsException e) {
            return found(2, 0);
        }
    }

    private int item(int row, int i) {
        if (rows[row] instanceof byte[] bytes) {
            return bytes[i];
        }
        return rows[row] instanceof short[] shorts ? shorts[i] : ((int[]) rows[row])[i];
    }

    private static int length(Object row) {
        return row == null ? 0 : java.lang.reflect.Array.getLength(row);
    }

    int copy(int a, int i, int b, int j, int n) {
        if (a < 0 || a > 7 || b < 0 || b > 7) {
            return BAD;
        }
        try {
            System.arraycopy(rows[a], i, rows[b], j, n);
            return found(0, n);
        } catch (NullPointerException e) {
            return found(1, 0);
        } catch (ArrayStoreException e) {
            return found(5, 0);
        } catch (IndexOutOfBoundsException e) {
            return found(2, 0);
        }
    }

    int drop(int row) {
        if (row < 0 || row > 7) {
            return BAD;
        }
        if (rows[row] == null) {
            return found(1, 0);
        }
        int had = length(rows[row]);
        rows[row] = null;
        return found(0, had);
    }

    private int found(int finding, int answer) {
        status = finding;
        return finding == 0 ? answer : -1000010 - finding;
    }

    // ---- houses, acts

    int feed(int letter) {
        if (letter < 0 || letter > 255) {
            return BAD;
        }
        if (tape.length() == 120) {
            return FULL;
        }
        tape.append((char) letter);
        return tape.length();
    }

    private static final String LAW = "cN;", EAR = "pN,N,N,N;", DOING = "xN,N,N;";
    private static final int[][] LAW_LIMITS = {{0, 12}};
    private static final int[][] EAR_LIMITS = {{1, 12}, {0, 3}, {0, 7}, {1, 8}};
    private static final int[][] DOING_LIMITS = {{0, 99}, {1, 40}, {0, 99}};

    int house() {
        String text = tape.toString();
        tape.setLength(0);
        List<String> tokens = new ArrayList<>();
        Matcher pieces = Pattern.compile("[0-9]+|.", Pattern.DOTALL).matcher(text);
        while (pieces.find()) {
            tokens.add(pieces.group());
        }
        House read = new House();
        int place = 0;
        int stage = 0;
        String statement = LAW;
        int[][] limits = LAW_LIMITS;
        int inStatement = 0;
        List<Integer> numbers = new ArrayList<>();
        char letter = 'c';
        for (String token : tokens) {
            if (inStatement == statement.length()) {
                take(read, letter, numbers);
                numbers.clear();
                inStatement = 0;
                if (stage <= 1 && "pwtkd".contains(token)) {
                    stage = 1;
                    statement = EAR;
                    limits = EAR_LIMITS;
                    letter = token.charAt(0);
                    if (read.ears.size() == 6) {
                        return fault(3, place);
                    }
                } else if (token.equals("x")) {
                    stage = 2;
                    statement = DOING;
                    limits = DOING_LIMITS;
                    letter = 'x';
                    if (read.doings.size() == 4) {
                        return fault(3, place);
                    }
                } else {
                    return fault(1, place);
                }
            } else if (statement.charAt(inStatement) == 'N') {
                if (!token.matches("[0-9]{1,2}")) {
                    return fault(1, place);
                }
                int number = Integer.parseInt(token);
                int[] limit = limits[numbers.size()];
                if (number < limit[0] || number > limit[1]) {
                    return fault(2, place);
                }
                numbers.add(number);
            } else if (!token.equals(statement.substring(inStatement, inStatement + 1))) {
                return fault(1, place);
            }
            inStatement++;
            place += token.length();
        }
        if (inStatement != statement.length()) {
            return fault(1, place);
        }
        take(read, letter, numbers);
        house = read;
        befores.clear();
        return read.ears.size();
    }

    private int fault(int number, int place) {
        fault = number;
        return -1000100 - place;
    }

    private void take(House read, char letter, List<Integer> numbers) {
        if (letter == 'c') {
            read.wool = numbers.get(0);
        } else if (letter == 'x') {
            read.doings.add(new int[] {numbers.get(0), numbers.get(1), numbers.get(2)});
        } else {
            Told told = new Told();
            told.number = read.ears.size();
            told.heed = numbers.get(0);
            told.room = numbers.get(1);
            told.from = numbers.get(2);
            told.span = numbers.get(3);
            told.trace = trace;
            read.ears.add(switch (letter) {
                case 'p' -> new Person(told);
                case 'w' -> new Widower(told);
                case 't' -> new Thief(told);
                case 'k' -> new Cat(told);
                default -> new Deaf(told);
            });
        }
    }

    int fault() {
        return fault;
    }

    private void act() {
        befores.add(house.copy());
        if (befores.size() > 24) {
            befores.remove(0);
        }
    }

    int quarters(int n) {
        if (house == null) {
            return STATE;
        }
        if (n < 1 || n > 20) {
            return BAD;
        }
        if (house.quarter() + n > 999) {
            return FULL;
        }
        for (int i = 0; i < n; i++) {
            act();
            house.pass();
        }
        return house.parts;
    }

    private boolean noEar(int ear) {
        return house == null || ear < 0 || ear >= house.ears.size();
    }

    int go(int ear, int room) {
        if (noEar(ear) || room < 0 || room > 3) {
            return BAD;
        }
        int was = house.told(ear).room;
        if (was == room) {
            return STATE;
        }
        act();
        house.told(ear).room = room;
        return was;
    }

    int hush(int ear, int is) {
        if (noEar(ear) || is < 0 || is > 1) {
            return BAD;
        }
        if (house.told(ear).hushed == (is == 1)) {
            return STATE;
        }
        act();
        house.told(ear).hushed = is == 1;
        return count(4);
    }

    int wool(int n) {
        if (house == null) {
            return STATE;
        }
        if (n < 0 || n > 12) {
            return BAD;
        }
        act();
        int was = house.wool;
        house.wool = n;
        return was;
    }

    int undo() {
        if (befores.isEmpty()) {
            return STATE;
        }
        house = befores.remove(befores.size() - 1);
        return befores.size();
    }

    int ear(int ear, int what) {
        if (noEar(ear) || what < 0 || what > 5) {
            return BAD;
        }
        Ear one = house.ears.get(ear);
        Told told = one.told();
        return new int[] {told.heed, told.room, told.hushed ? 1 : 0, house.listens(one) ? 1 : 0, house.gives(one),
                told.lived}[what];
    }

    int clock(int what) {
        if (house == null) {
            return STATE;
        }
        if (what < 0 || what > 3) {
            return BAD;
        }
        return new int[] {house.parts, house.parts / 12, house.goes(), house.wool}[what];
    }

    // ---- foretold

    int ahead(int n) {
        if (house == null) {
            return STATE;
        }
        return n < 0 || n > 99 ? BAD : house.after(n).parts;
    }

    int whenShows(int v) {
        if (house == null) {
            return STATE;
        }
        if (v < 0 || v > 999) {
            return BAD;
        }
        return first(0, 99, n -> house.after(n).parts / 12 >= v);
    }

    private static int first(int from, int to, IntPredicate is) {
        for (int n = from; n <= to; n++) {
            if (is.test(n)) {
                return n;
            }
        }
        return NONE;
    }

    private boolean noDoing(int doing) {
        return house == null || doing < 0 || doing >= house.doings.size();
    }

    int done(int doing) {
        if (noDoing(doing)) {
            return BAD;
        }
        int[] told = house.doings.get(doing);
        List<Integer> gone = house.after(99).gone;
        return first(told[0], house.quarter() + 99, q -> gone.get(q) - gone.get(told[0]) >= 12 * told[1]);
    }

    int late() {
        if (house == null) {
            return STATE;
        }
        int late = 0;
        for (int doing = 0; doing < house.doings.size(); doing++) {
            int on = done(doing);
            late += on >= 0 && on <= house.doings.get(doing)[2] ? 0 : 1 << doing;
        }
        return late;
    }

    int latest(int doing) {
        if (noDoing(doing)) {
            return BAD;
        }
        int[] told = house.doings.get(doing);
        List<Integer> gone = house.after(99).gone;
        int latest = NONE;
        for (int n = 0; n <= 99; n++) {
            int begin = house.quarter() + n;
            if (begin <= told[2] && gone.get(told[2]) - gone.get(begin) >= 12 * told[1]) {
                latest = n;
            }
        }
        return latest;
    }

    private boolean noGoal(int v, int n, int what) {
        return v < 0 || v > 999 || n < 0 || n > 99 || what < 0 || what > 1;
    }

    private int fewest(IntPredicate does, int what) {
        for (int many = 0; many <= house.ears.size(); many++) {
            for (int set = 0; set < 1 << house.ears.size(); set++) {
                if (Integer.bitCount(set) == many && does.test(set)) {
                    return what == 0 ? many : set;
                }
            }
        }
        return NONE;
    }

    int toHush(int v, int n, int what) {
        if (house == null) {
            return STATE;
        }
        if (noGoal(v, n, what)) {
            return BAD;
        }
        return fewest(set -> {
            House other = house.copy();
            for (Ear ear : other.ears) {
                if ((set & 1 << ear.told().number) != 0) {
                    if (ear.told().hushed) {
                        return false;
                    }
                    ear.told().hushed = true;
                }
            }
            return other.after(n).parts / 12 <= v;
        }, what);
    }

    int toCall(int v, int n, int what) {
        if (house == null) {
            return STATE;
        }
        if (noGoal(v, n, what)) {
            return BAD;
        }
        return fewest(set -> {
            House other = house.copy();
            for (Ear ear : other.ears) {
                if ((set & 1 << ear.told().number) != 0) {
                    if (ear.told().room == 0) {
                        return false;
                    }
                    ear.told().room = 0;
                    ear.told().hushed = false;
                }
            }
            return other.after(n).parts / 12 >= v;
        }, what);
    }

    private int rowFinding(int row, int i, int n) {
        if (rows[row] == null) {
            return 1;
        }
        return i < 0 || (long) i + n > length(rows[row]) ? 2 : 0;
    }

    private boolean goesSo(House start, int row, int i, int n) {
        House later = start.copy();
        for (int k = 0; k < n; k++) {
            if (later.goes() != item(row, i + k)) {
                return false;
            }
            later.pass();
        }
        return true;
    }

    int who(int row, int i, int n, int what) {
        if (house == null) {
            return STATE;
        }
        if (row < 0 || row > 7 || n < 1 || n > 16 || what < 0 || what > 1) {
            return BAD;
        }
        if (rowFinding(row, i, n) != 0) {
            return found(rowFinding(row, i, n), 0);
        }
        List<Integer> sets = new ArrayList<>();
        for (int set = 0; set < 1 << house.ears.size(); set++) {
            House other = house.copy();
            for (Ear ear : other.ears) {
                ear.told().room = (set & 1 << ear.told().number) != 0 ? 0 : 3;
                ear.told().hushed = false;
            }
            if (goesSo(other, row, i, n)) {
                sets.add(set);
            }
        }
        return found(0, what == 0 ? sets.size() : sets.isEmpty() ? NONE : sets.get(0));
    }

    int heed(int ear, int row, int i, int n) {
        if (noEar(ear) || row < 0 || row > 7 || n < 1 || n > 16) {
            return BAD;
        }
        if (rowFinding(row, i, n) != 0) {
            return found(rowFinding(row, i, n), 0);
        }
        int heeds = 0;
        for (int heed = 1; heed <= 12; heed++) {
            House other = house.copy();
            other.told(ear).heed = heed;
            heeds += goesSo(other, row, i, n) ? 1 << heed - 1 : 0;
        }
        return found(0, heeds);
    }

    int older(int ear, int other, int n) {
        if (noEar(ear) || noEar(other) || ear == other || n < 0 || n > 99) {
            return BAD;
        }
        House later = house.after(n);
        return later.told(ear).lived - later.told(other).lived;
    }

    int odds(int parts, int c, int what) {
        if (house == null) {
            return STATE;
        }
        if (parts < 0 || parts > 99 || c < 0 || c > 10 || what < 0 || what > 1) {
            return BAD;
        }
        long[] odds = oddsFrom(house.copy(), 0, parts, c);
        for (long by = odds[1]; by > 1; by--) {
            if (odds[0] % by == 0 && odds[1] % by == 0) {
                return (int) (odds[what] / by);
            }
        }
        return (int) odds[what];
    }

    /** Above and below; the ears from one on may yet think of something else, and are hushed then. */
    private static long[] oddsFrom(House house, int ear, int parts, int c) {
        if (ear == house.ears.size()) {
            return new long[] {house.goes() >= parts ? 1 : 0, 1};
        }
        if (!house.listens(house.ears.get(ear))) {
            return oddsFrom(house, ear + 1, parts, c);
        }
        long[] heeding = oddsFrom(house, ear + 1, parts, c);
        House other = house.copy();
        other.told(ear).hushed = true;
        long[] thinking = oddsFrom(other, ear + 1, parts, c);
        return new long[] {(10 - c) * heeding[0] + c * thinking[0], 10 * heeding[1]};
    }

    int image(int k) {
        if (k < 0 || k > 1) {
            return BAD;
        }
        if (house == null) {
            return STATE;
        }
        images[k] = house.copy();
        return 1;
    }

    int restore(int k) {
        if (k < 0 || k > 1) {
            return BAD;
        }
        if (images[k] == null) {
            return STATE;
        }
        house = images[k].copy();
        befores.clear();
        return 1;
    }

    // ---- asked

    private static final List<Class<?>> KINDS =
            List.of(Ear.class, Person.class, Widower.class, Thief.class, Cat.class, Deaf.class);

    int kind(int ear) {
        return noEar(ear) ? BAD : KINDS.indexOf(house.ears.get(ear).getClass());
    }

    int as(int ear, int kind) {
        if (noEar(ear) || kind < 0 || kind > 5) {
            return BAD;
        }
        try {
            KINDS.get(kind).cast(house.ears.get(ear));
            return found(0, ear);
        } catch (ClassCastException e) {
            return found(3, 0);
        }
    }

    int ask(int ear, int what) {
        if (noEar(ear) || what < 0 || what > 1) {
            return BAD;
        }
        trace.clear();
        Ear asked = house.ears.get(ear);
        return what == 0 ? asked.size() : asked.mark();
    }

    int trace(int i) {
        return i < 0 || i >= Math.min(16, trace.size()) ? NONE : trace.get(i);
    }

    int count(int what) {
        List<Ear> ears = house == null ? List.of() : house.ears;
        return switch (what) {
            case 0 -> (int) Arrays.stream(rows).filter(row -> row != null).count();
            case 1 -> ears.size();
            case 2 -> house == null ? 0 : house.doings.size();
            case 3 -> house == null ? 0 : house.quarter();
            case 4 -> (int) ears.stream().filter(ear -> ear.told().hushed).count();
            case 5 -> (int) ears.stream().filter(ear -> ear.told().room == 0).count();
            case 6 -> befores.size();
            case 7 -> tape.length();
            default -> BAD;
        };
    }

    int status() {
        return status;
    }
}
