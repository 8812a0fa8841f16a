import java.util.Arrays;

/** A tall clock that goes only by who listens. What each call answers is told in DOC.md. */
public final class HeedClock {
    public static final int NONE = -1000000, BAD = -1000001, STATE = -1000002, FULL = -1000003;

    private static final int FINDINGS = -1000010;
    private static final int NULL = 1, PLACE = 2, KIND = 3, SIZE = 4, STORE = 5;
    private static final int FAULTS = -1000100;
    private static final int MOST_AHEAD = 99;
    private static final int MOST_SHOWN = 999;
    private static final int MOST_PARTS_ASKED = 99;
    private static final int MOST_ITEMS_READ = 16;
    private static final int MOST_QUARTERS_AT_ONCE = 20;

    private final Rows rows = new Rows();
    private final Tape tape = new Tape();
    private final House now = new House();
    private final House firstImage = new House();
    private final House secondImage = new House();
    private final Acts acts = new Acts();
    private final Asks asks = new Asks();
    private int latestFault = 0;
    private int latestFinding = 0;

    public HeedClock() {
    }

    // ---- rows

    public int row(int row, int lane, int n) {
        if (!Rows.isRow(row) || !Rows.isLane(lane) || n > Rows.MOST_ITEMS) {
            return BAD;
        }
        if (n < 0) {
            return found(SIZE);
        }
        rows.make(row, lane, n);
        return foundNothing(n);
    }

    public int set(int row, int i, int v) {
        if (!Rows.isRow(row)) {
            return BAD;
        }
        int finding = rows.findingOf(row, i, 1);
        if (finding != 0) {
            return found(finding);
        }
        return foundNothing(rows.put(row, i, v));
    }

    public int copy(int a, int i, int b, int j, int n) {
        if (!Rows.isRow(a) || !Rows.isRow(b)) {
            return BAD;
        }
        int finding = rows.findingOfCopy(a, i, b, j, n);
        if (finding != 0) {
            return found(finding);
        }
        rows.move(a, i, b, j, n);
        return foundNothing(n);
    }

    public int drop(int row) {
        if (!Rows.isRow(row)) {
            return BAD;
        }
        if (rows.isMissing(row)) {
            return found(NULL);
        }
        return foundNothing(rows.remove(row));
    }

    // ---- houses, acts

    public int feed(int letter) {
        if (!isWithin(letter, 0, 255)) {
            return BAD;
        }
        return tape.append(letter);
    }

    public int house() {
        int place = tape.read();
        if (place != NONE) {
            latestFault = tape.fault;
            return FAULTS - place;
        }
        now.settle(tape);
        acts.forgetAll();
        return now.ears;
    }

    public int fault() {
        return latestFault;
    }

    public int quarters(int n) {
        if (!now.stands) {
            return STATE;
        }
        if (!isWithin(n, 1, MOST_QUARTERS_AT_ONCE)) {
            return BAD;
        }
        if (now.quarter + n > House.LAST_QUARTER) {
            return FULL;
        }
        for (int i = 0; i < n; i++) {
            now.passQuarter();
            acts.keep(Acts.QUARTER, 0, 0);
        }
        return now.parts;
    }

    public int go(int ear, int room) {
        if (!now.hasEar(ear) || !isWithin(room, 0, House.LAST_ROOM)) {
            return BAD;
        }
        int before = now.rooms[ear];
        if (before == room) {
            return STATE;
        }
        acts.keep(Acts.GOING, ear, before);
        now.rooms[ear] = room;
        return before;
    }

    public int hush(int ear, int is) {
        if (!now.hasEar(ear) || !isWithin(is, 0, 1)) {
            return BAD;
        }
        if (now.isHushed(ear) == (is == 1)) {
            return STATE;
        }
        acts.keep(Acts.HUSHING, ear, 1 - is);
        now.setHushed(ear, is == 1);
        return Integer.bitCount(now.hushed);
    }

    public int wool(int n) {
        if (!now.stands) {
            return STATE;
        }
        if (!isWithin(n, 0, House.MOST_WOOL)) {
            return BAD;
        }
        int before = now.wool;
        acts.keep(Acts.WOOL, 0, before);
        now.wool = n;
        return before;
    }

    public int undo() {
        if (acts.kept == 0) {
            return STATE;
        }
        acts.takeBackLatest(now);
        return acts.kept;
    }

    public int ear(int ear, int what) {
        if (!now.hasEar(ear)) {
            return BAD;
        }
        switch (what) {
            case 0:
                return now.heeds[ear];
            case 1:
                return now.rooms[ear];
            case 2:
                return now.isHushed(ear) ? 1 : 0;
            case 3:
                return now.listensNow(ear) ? 1 : 0;
            case 4:
                return now.givesNow(ear);
            case 5:
                return now.lived[ear];
            default:
                return BAD;
        }
    }

    public int clock(int what) {
        if (!now.stands) {
            return STATE;
        }
        switch (what) {
            case 0:
                return now.parts;
            case 1:
                return now.parts / House.PARTS_SHOWN_AS_ONE;
            case 2:
                return now.partsOf(now.attending(), now.quarter);
            case 3:
                return now.wool;
            default:
                return BAD;
        }
    }

    // ---- foretold

    public int ahead(int n) {
        if (!now.stands) {
            return STATE;
        }
        if (!isWithin(n, 0, MOST_AHEAD)) {
            return BAD;
        }
        return Foresight.partsAfter(now, now.attending(), n);
    }

    public int whenShows(int v) {
        if (!now.stands) {
            return STATE;
        }
        if (!isWithin(v, 0, MOST_SHOWN)) {
            return BAD;
        }
        return Foresight.quartersTillShown(now, v);
    }

    public int done(int doing) {
        if (!now.hasDoing(doing)) {
            return BAD;
        }
        return Foresight.doneOn(now, doing);
    }

    public int late() {
        if (!now.stands) {
            return STATE;
        }
        return Foresight.lateDoings(now);
    }

    public int latest(int doing) {
        if (!now.hasDoing(doing)) {
            return BAD;
        }
        return Foresight.latestBegin(now, doing);
    }

    public int toHush(int v, int n, int what) {
        if (!now.stands) {
            return STATE;
        }
        if (!isGoal(v, n, what)) {
            return BAD;
        }
        return manyOrWhich(Foresight.fewestToBeHushed(now, v, n), what);
    }

    public int toCall(int v, int n, int what) {
        if (!now.stands) {
            return STATE;
        }
        if (!isGoal(v, n, what)) {
            return BAD;
        }
        return manyOrWhich(Foresight.fewestToBeCalled(now, v, n), what);
    }

    public int who(int row, int i, int n, int what) {
        if (!now.stands) {
            return STATE;
        }
        if (!Rows.isRow(row) || !isWithin(n, 1, MOST_ITEMS_READ) || !isWithin(what, 0, 1)) {
            return BAD;
        }
        int finding = rows.findingOf(row, i, n);
        if (finding != 0) {
            return found(finding);
        }
        long sets = Foresight.setsThatGoSo(now, rows, row, i, n);
        if (what == 0) {
            return foundNothing(Long.bitCount(sets));
        }
        return foundNothing(sets == 0 ? NONE : Long.numberOfTrailingZeros(sets));
    }

    public int heed(int ear, int row, int i, int n) {
        if (!now.hasEar(ear) || !Rows.isRow(row) || !isWithin(n, 1, MOST_ITEMS_READ)) {
            return BAD;
        }
        int finding = rows.findingOf(row, i, n);
        if (finding != 0) {
            return found(finding);
        }
        return foundNothing(Foresight.heedsThatGoSo(now, ear, rows, row, i, n));
    }

    public int older(int ear, int other, int n) {
        if (!now.hasEar(ear) || !now.hasEar(other) || ear == other || !isWithin(n, 0, MOST_AHEAD)) {
            return BAD;
        }
        return Foresight.livedAfter(now, ear, n) - Foresight.livedAfter(now, other, n);
    }

    public int odds(int parts, int c, int what) {
        if (!now.stands) {
            return STATE;
        }
        if (!isWithin(parts, 0, MOST_PARTS_ASKED) || !isWithin(c, 0, Foresight.TEN) || !isWithin(what, 0, 1)) {
            return BAD;
        }
        int above = Foresight.chancesToGo(now, parts, c);
        int below = Foresight.chancesInAll(now);
        int shared = greatestDivisor(above, below);
        return (what == 0 ? above : below) / shared;
    }

    public int image(int k) {
        if (!isWithin(k, 0, 1)) {
            return BAD;
        }
        if (!now.stands) {
            return STATE;
        }
        imageAt(k).becomeLike(now);
        return 1;
    }

    public int restore(int k) {
        if (!isWithin(k, 0, 1)) {
            return BAD;
        }
        House image = imageAt(k);
        if (!image.stands) {
            return STATE;
        }
        now.becomeLike(image);
        acts.forgetAll();
        return 1;
    }

    // ---- asked

    public int kind(int ear) {
        return now.hasEar(ear) ? now.kinds[ear] : BAD;
    }

    public int as(int ear, int kind) {
        if (!now.hasEar(ear) || !Kinds.isKind(kind)) {
            return BAD;
        }
        if (!Kinds.isOneOf(now.kinds[ear], kind)) {
            return found(KIND);
        }
        return foundNothing(ear);
    }

    public int ask(int ear, int what) {
        if (!now.hasEar(ear) || !isWithin(what, Asks.ASK_SIZE, Asks.ASK_MARK)) {
            return BAD;
        }
        return asks.answer(now, ear, what);
    }

    public int trace(int i) {
        return i >= 0 && i < asks.begun ? asks.bodies[i] : NONE;
    }

    public int count(int what) {
        switch (what) {
            case 0:
                return rows.present();
            case 1:
                return now.ears;
            case 2:
                return now.doings;
            case 3:
                return now.quarter;
            case 4:
                return Integer.bitCount(now.hushed);
            case 5:
                return Integer.bitCount(now.inClockRoom());
            case 6:
                return acts.kept;
            case 7:
                return tape.length;
            default:
                return BAD;
        }
    }

    public int status() {
        return latestFinding;
    }

    private int found(int finding) {
        latestFinding = finding;
        return FINDINGS - finding;
    }

    private int foundNothing(int answer) {
        latestFinding = 0;
        return answer;
    }

    private House imageAt(int k) {
        return k == 0 ? firstImage : secondImage;
    }

    private static boolean isWithin(int number, int least, int most) {
        return number >= least && number <= most;
    }

    private static boolean isGoal(int v, int n, int what) {
        return isWithin(v, 0, MOST_SHOWN) && isWithin(n, 0, MOST_AHEAD) && isWithin(what, 0, 1);
    }

    private static int manyOrWhich(int set, int what) {
        if (set == NONE) {
            return NONE;
        }
        return what == 0 ? Integer.bitCount(set) : set;
    }

    /** Never below 1, so that it can divide. */
    private static int greatestDivisor(int a, int b) {
        int more = a;
        int less = b;
        for (int step = 0; step < 64 && less != 0; step++) {
            int rest = more % less;
            more = less;
            less = rest;
        }
        return Math.max(more, 1);
    }

    /** ROWS 0 .. 7, their ITEMS in one array, 40 places for each. */
    private static final class Rows {
        static final int MANY = 8;
        static final int MOST_ITEMS = 40;
        static final int BYTES = 0, SHORTS = 1, INTS = 2;
        private static final int MISSING = -1;

        private final int[] lanes = new int[MANY];
        private final int[] sizes = new int[MANY];
        private final int[] items = new int[MANY * MOST_ITEMS];

        Rows() {
            Arrays.fill(lanes, MISSING);
        }

        static boolean isRow(int row) {
            return row >= 0 && row < MANY;
        }

        static boolean isLane(int lane) {
            return lane >= BYTES && lane <= INTS;
        }

        boolean isMissing(int row) {
            return lanes[row] == MISSING;
        }

        /** What is found, if n ITEMS from i on are wanted; 0: nothing. */
        int findingOf(int row, int i, int n) {
            if (isMissing(row)) {
                return NULL;
            }
            return hasPlaces(row, i, n) ? 0 : PLACE;
        }

        int findingOfCopy(int a, int i, int b, int j, int n) {
            if (isMissing(a) || isMissing(b)) {
                return NULL;
            }
            if (lanes[a] != lanes[b]) {
                return STORE;
            }
            return hasPlaces(a, i, n) && hasPlaces(b, j, n) ? 0 : PLACE;
        }

        /** Asked by subtraction, since i and n together may be more than an int. */
        private boolean hasPlaces(int row, int i, int n) {
            return i >= 0 && n >= 0 && i <= sizes[row] && n <= sizes[row] - i;
        }

        void make(int row, int lane, int n) {
            int first = row * MOST_ITEMS;
            lanes[row] = lane;
            sizes[row] = n;
            Arrays.fill(items, first, first + MOST_ITEMS, 0);
        }

        int remove(int row) {
            int size = sizes[row];
            lanes[row] = MISSING;
            sizes[row] = 0;
            return size;
        }

        int put(int row, int i, int v) {
            int item = cutToLane(v, lanes[row]);
            items[row * MOST_ITEMS + i] = item;
            return item;
        }

        private static int cutToLane(int v, int lane) {
            if (lane == BYTES) {
                return (byte) v;
            }
            return lane == SHORTS ? (short) v : v;
        }

        int item(int row, int i) {
            return items[row * MOST_ITEMS + i];
        }

        void move(int a, int i, int b, int j, int n) {
            System.arraycopy(items, a * MOST_ITEMS + i, items, b * MOST_ITEMS + j, n);
        }

        int present() {
            int many = 0;
            for (int row = 0; row < MANY; row++) {
                if (!isMissing(row)) {
                    many++;
                }
            }
            return many;
        }
    }

    /** THE TAPE, and what was told in the text that was read last. */
    private static final class Tape {
        private static final int MOST_BYTES = 120;
        private static final int MISPLACED = 1, NOT_AS_TOLD = 2, TOO_MANY = 3;
        private static final int MOST_FIGURES = 2;
        private static final int[] LAW_LEAST = {0};
        private static final int[] LAW_MOST = {12};
        private static final int[] EAR_LEAST = {1, 0, 0, 1};
        private static final int[] EAR_MOST = {12, 3, 7, 8};
        private static final int[] DOING_LEAST = {0, 1, 0};
        private static final int[] DOING_MOST = {99, 40, 99};
        private static final int MOST_NUMBERS = 1 + 4 * House.MOST_EARS + 3 * House.MOST_DOINGS;

        private final int[] bytes = new int[MOST_BYTES];
        int length = 0;
        int fault = 0;
        private int at = 0;
        final int[] kinds = new int[House.MOST_EARS];
        int ears = 0;
        int doings = 0;
        private final int[] numbers = new int[MOST_NUMBERS];
        private int told = 0;

        int append(int letter) {
            if (length >= MOST_BYTES) {
                return FULL;
            }
            bytes[length] = letter;
            length++;
            return length;
        }

        /** Reads the tape, which is empty then: the place of the first fault, or NONE. */
        int read() {
            at = 0;
            fault = 0;
            ears = 0;
            doings = 0;
            told = 0;
            readHouse();
            length = 0;
            return fault == 0 ? NONE : at;
        }

        /** As soon as there is a fault, 'at' stays and byteHere() is none. */
        private void readHouse() {
            if (byteHere() != 'c') {
                fault = MISPLACED;
                return;
            }
            at++;
            readNumbers(LAW_LEAST, LAW_MOST);
            for (int i = 0; i <= House.MOST_EARS && Kinds.ofLetter(byteHere()) != Kinds.EAR; i++) {
                readEar(Kinds.ofLetter(byteHere()));
            }
            for (int i = 0; i <= House.MOST_DOINGS && byteHere() == 'x'; i++) {
                readDoing();
            }
            if (fault == 0 && at < length) {
                fault = MISPLACED;
            }
        }

        private int byteHere() {
            return fault == 0 && at < length ? bytes[at] : NONE;
        }

        private void readEar(int kind) {
            if (ears >= House.MOST_EARS) {
                fault = TOO_MANY;
                return;
            }
            kinds[ears] = kind;
            ears++;
            at++;
            readNumbers(EAR_LEAST, EAR_MOST);
        }

        private void readDoing() {
            if (doings >= House.MOST_DOINGS) {
                fault = TOO_MANY;
                return;
            }
            doings++;
            at++;
            readNumbers(DOING_LEAST, DOING_MOST);
        }

        /** NUMBERS with , between them and ; behind the last. */
        private void readNumbers(int[] least, int[] most) {
            for (int i = 0; i < least.length && i < most.length && fault == 0; i++) {
                readNumber(least[i], most[i]);
                readSign(i == least.length - 1 ? ';' : ',');
            }
        }

        private void readNumber(int least, int most) {
            int figures = figuresHere();
            if (figures == 0 || figures > MOST_FIGURES) {
                fault = MISPLACED;
                return;
            }
            int value = 0;
            for (int i = at; i < at + figures; i++) {
                value = 10 * value + bytes[i] - '0';
            }
            if (value < least || value > most || told >= MOST_NUMBERS) {
                fault = NOT_AS_TOLD;
                return;
            }
            numbers[told] = value;
            told++;
            at += figures;
        }

        private int figuresHere() {
            int figures = 0;
            for (int i = at; i < length && bytes[i] >= '0' && bytes[i] <= '9'; i++) {
                figures++;
            }
            return figures;
        }

        private void readSign(char sign) {
            if (fault != 0) {
                return;
            }
            if (byteHere() != sign) {
                fault = MISPLACED;
                return;
            }
            at++;
        }

        int toldWool() {
            return numbers[0];
        }

        /** Number i (0 .. 3) of an ear's statement. */
        int toldOfEar(int ear, int i) {
            return numbers[1 + 4 * ear + i];
        }

        /** Number i (0 .. 2) of a doing's statement; the doings stand behind all ears. */
        int toldOfDoing(int doing, int i) {
            return numbers[1 + 4 * ears + 3 * doing + i];
        }
    }

    /** Which KIND is which other one, too. */
    private static final class Kinds {
        static final int EAR = 0, PERSON = 1, WIDOWER = 2, THIEF = 3, CAT = 4, DEAF = 5;
        private static final int NO_KIND = -1;
        private static final int[] NEAREST = {NO_KIND, EAR, PERSON, PERSON, EAR, CAT};
        private static final int MOST_STEPS = 3;

        private Kinds() {
        }

        static boolean isKind(int kind) {
            return kind >= EAR && kind <= DEAF;
        }

        /** EAR, if it is no letter of a SORT. */
        static int ofLetter(int letter) {
            switch (letter) {
                case 'p':
                    return PERSON;
                case 'w':
                    return WIDOWER;
                case 't':
                    return THIEF;
                case 'k':
                    return CAT;
                case 'd':
                    return DEAF;
                default:
                    return EAR;
            }
        }

        /** The KIND that one of this KIND is, too; NO_KIND above EAR. */
        static int nearest(int kind) {
            return isKind(kind) ? NEAREST[kind] : NO_KIND;
        }

        static boolean isOneOf(int kind, int wanted) {
            int is = kind;
            for (int step = 0; step < MOST_STEPS && is != wanted; step++) {
                is = nearest(is);
            }
            return is == wanted;
        }
    }

    /** A HOUSE as it is now, or as an IMAGE keeps it. Sets of EARS are bits. */
    private static final class House {
        static final int MOST_EARS = 6;
        static final int MOST_DOINGS = 4;
        static final int MOST_WOOL = 12;
        static final int LAST_ROOM = 3;
        static final int LAST_QUARTER = 999;
        static final int PARTS_SHOWN_AS_ONE = 12;
        static final int QUARTERS_OF_A_ROUND = 8;
        static final int SUNS_PARTS = 12;
        private static final int CLOCK_ROOM = 0;
        private static final int SILENCES_WIDOWERS = 12;
        private static final int CAT_GIVES_AT_MOST = 3;

        boolean stands = false;
        int wool = 0;
        int quarter = 0;
        int parts = 0;
        int hushed = 0;
        int ears = 0;
        int doings = 0;
        final int[] kinds = new int[MOST_EARS];
        final int[] heeds = new int[MOST_EARS];
        final int[] rooms = new int[MOST_EARS];
        private final int[] froms = new int[MOST_EARS];
        private final int[] longs = new int[MOST_EARS];
        final int[] lived = new int[MOST_EARS];
        final int[] begins = new int[MOST_DOINGS];
        final int[] needs = new int[MOST_DOINGS];
        final int[] dues = new int[MOST_DOINGS];
        /** By QUARTER, up to this one: what the clock had gone as it began. */
        private final int[] goneBy = new int[LAST_QUARTER + 1];

        boolean hasEar(int ear) {
            return ear >= 0 && ear < ears;
        }

        boolean hasDoing(int doing) {
            return doing >= 0 && doing < doings;
        }

        /** Becomes the house that was told on the tape. */
        void settle(Tape tape) {
            stands = true;
            wool = tape.toldWool();
            quarter = 0;
            parts = 0;
            hushed = 0;
            goneBy[0] = 0;
            settleEars(tape);
            settleDoings(tape);
        }

        private void settleEars(Tape tape) {
            ears = tape.ears;
            for (int ear = 0; ear < ears; ear++) {
                kinds[ear] = tape.kinds[ear];
                heeds[ear] = tape.toldOfEar(ear, 0);
                rooms[ear] = tape.toldOfEar(ear, 1);
                froms[ear] = tape.toldOfEar(ear, 2);
                longs[ear] = tape.toldOfEar(ear, 3);
                lived[ear] = 0;
            }
        }

        private void settleDoings(Tape tape) {
            doings = tape.doings;
            for (int doing = 0; doing < doings; doing++) {
                begins[doing] = tape.toldOfDoing(doing, 0);
                needs[doing] = tape.toldOfDoing(doing, 1);
                dues[doing] = tape.toldOfDoing(doing, 2);
            }
        }

        void becomeLike(House other) {
            stands = other.stands;
            wool = other.wool;
            quarter = other.quarter;
            parts = other.parts;
            hushed = other.hushed;
            ears = other.ears;
            doings = other.doings;
            System.arraycopy(other.kinds, 0, kinds, 0, MOST_EARS);
            System.arraycopy(other.heeds, 0, heeds, 0, MOST_EARS);
            System.arraycopy(other.rooms, 0, rooms, 0, MOST_EARS);
            System.arraycopy(other.froms, 0, froms, 0, MOST_EARS);
            System.arraycopy(other.longs, 0, longs, 0, MOST_EARS);
            System.arraycopy(other.lived, 0, lived, 0, MOST_EARS);
            System.arraycopy(other.begins, 0, begins, 0, MOST_DOINGS);
            System.arraycopy(other.needs, 0, needs, 0, MOST_DOINGS);
            System.arraycopy(other.dues, 0, dues, 0, MOST_DOINGS);
            System.arraycopy(other.goneBy, 0, goneBy, 0, other.quarter + 1);
        }

        boolean isHushed(int ear) {
            return isIn(hushed, ear);
        }

        void setHushed(int ear, boolean is) {
            int bit = 1 << ear;
            hushed = is ? hushed | bit : hushed & ~bit;
        }

        boolean isInClockRoom(int ear) {
            return rooms[ear] == CLOCK_ROOM;
        }

        int inClockRoom() {
            int set = 0;
            for (int ear = 0; ear < ears; ear++) {
                if (isInClockRoom(ear)) {
                    set |= 1 << ear;
                }
            }
            return set;
        }

        /** Who can listen now, and does so in its quarters. */
        int attending() {
            return inClockRoom() & ~hushed;
        }

        int allSets() {
            return 1 << ears;
        }

        private static boolean isIn(int set, int ear) {
            return (set >> ear & 1) == 1;
        }

        private boolean hasItsTime(int ear, int ofQuarter) {
            return (ofQuarter + QUARTERS_OF_A_ROUND - froms[ear]) % QUARTERS_OF_A_ROUND < longs[ear];
        }

        boolean listensNow(int ear) {
            return isIn(attending(), ear) && hasItsTime(ear, quarter);
        }

        int listeningNow() {
            int set = 0;
            for (int ear = 0; ear < ears; ear++) {
                if (listensNow(ear)) {
                    set |= 1 << ear;
                }
            }
            return set;
        }

        /** What an ear gives that listens, when nobody silences widowers. */
        private int giftOf(int ear) {
            int left = heeds[ear] > wool ? heeds[ear] - wool : 0;
            int half = left / 2;
            switch (kinds[ear]) {
                case Kinds.PERSON:
                case Kinds.WIDOWER:
                    return left;
                case Kinds.THIEF:
                    return half;
                case Kinds.CAT:
                    return half > CAT_GIVES_AT_MOST ? CAT_GIVES_AT_MOST : half;
                default:
                    return 0;
            }
        }

        /** How many parts the clock goes in a quarter, if just those of the set attend. */
        int partsOf(int set, int ofQuarter) {
            int ofWidowers = 0;
            int ofOthers = 0;
            for (int ear = 0; ear < ears; ear++) {
                if (isIn(set, ear) && hasItsTime(ear, ofQuarter)) {
                    if (kinds[ear] == Kinds.WIDOWER) {
                        ofWidowers += giftOf(ear);
                    } else {
                        ofOthers += giftOf(ear);
                    }
                }
            }
            return ofOthers >= SILENCES_WIDOWERS ? ofOthers : ofOthers + ofWidowers;
        }

        private int widowers() {
            int set = 0;
            for (int ear = 0; ear < ears; ear++) {
                if (kinds[ear] == Kinds.WIDOWER) {
                    set |= 1 << ear;
                }
            }
            return set;
        }

        private boolean areWidowersSilenced() {
            return partsOf(attending() & ~widowers(), quarter) >= SILENCES_WIDOWERS;
        }

        int givesNow(int ear) {
            if (!listensNow(ear)) {
                return 0;
            }
            if (kinds[ear] == Kinds.WIDOWER && areWidowersSilenced()) {
                return 0;
            }
            return giftOf(ear);
        }

        void passQuarter() {
            if (quarter >= LAST_QUARTER) {
                return;
            }
            int goes = partsOf(attending(), quarter);
            growOlder(goes, SUNS_PARTS);
            parts += goes;
            quarter++;
            goneBy[quarter] = parts;
        }

        /** Whatever came behind the quarter was taken back before, so all are where they were in it. */
        void takeQuarterBack() {
            if (quarter <= 0) {
                return;
            }
            quarter--;
            growOlder(goneBy[quarter] - parts, -SUNS_PARTS);
            parts = goneBy[quarter];
        }

        private void growOlder(int byClock, int bySun) {
            for (int ear = 0; ear < ears; ear++) {
                lived[ear] += isInClockRoom(ear) ? byClock : bySun;
            }
        }

        boolean isOver(int someQuarter) {
            return someQuarter >= 0 && someQuarter < quarter;
        }

        /** How many parts the clock went in a quarter that is over. */
        int partsGoneIn(int pastQuarter) {
            return isOver(pastQuarter) ? goneBy[pastQuarter + 1] - goneBy[pastQuarter] : 0;
        }
    }

    /** What is foretold of a house; nothing of it changes. */
    private static final class Foresight {
        static final int TEN = 10;
        private static final int MOST_HEED = 12;

        private Foresight() {
        }

        /** What a quarter brings comes again a round later, so just one round is looked at. */
        static int partsAfter(House house, int set, int n) {
            int parts = house.parts;
            for (int i = 0; i < House.QUARTERS_OF_A_ROUND && i < n; i++) {
                int times = (n - 1 - i) / House.QUARTERS_OF_A_ROUND + 1;
                parts += times * house.partsOf(set, house.quarter + i);
            }
            return parts;
        }

        private static int shownAfter(House house, int set, int n) {
            return partsAfter(house, set, n) / House.PARTS_SHOWN_AS_ONE;
        }

        static int quartersTillShown(House house, int v) {
            int set = house.attending();
            int parts = house.parts;
            for (int n = 0; n <= MOST_AHEAD; n++) {
                if (parts / House.PARTS_SHOWN_AS_ONE >= v) {
                    return n;
                }
                parts += house.partsOf(set, house.quarter + n);
            }
            return NONE;
        }

        private static int partsNeeded(House house, int doing) {
            return House.PARTS_SHOWN_AS_ONE * house.needs[doing];
        }

        static int doneOn(House house, int doing) {
            int set = house.attending();
            int needed = partsNeeded(house, doing);
            int gone = 0;
            for (int quarter = house.begins[doing]; quarter <= house.quarter + MOST_AHEAD; quarter++) {
                if (gone >= needed) {
                    return quarter;
                }
                gone += house.isOver(quarter) ? house.partsGoneIn(quarter) : house.partsOf(set, quarter);
            }
            return NONE;
        }

        static int lateDoings(House house) {
            int late = 0;
            for (int doing = 0; doing < house.doings; doing++) {
                int on = doneOn(house, doing);
                if (on == NONE || on > house.dues[doing]) {
                    late |= 1 << doing;
                }
            }
            return late;
        }

        /** Goes back from the quarter that it is due by, till what comes between is enough. */
        static int latestBegin(House house, int doing) {
            int set = house.attending();
            int needed = partsNeeded(house, doing);
            int gone = 0;
            for (int quarter = house.dues[doing] - 1; quarter >= house.quarter; quarter--) {
                gone += house.partsOf(set, quarter);
                if (gone >= needed) {
                    return quarter - house.quarter;
                }
            }
            return NONE;
        }

        /** The sets are gone through from the least on, so that of several as few the least stays. */
        static int fewestToBeHushed(House house, int v, int n) {
            int set = house.attending();
            int best = NONE;
            for (int more = 0; more < house.allSets(); more++) {
                if ((more & house.hushed) == 0 && isFewer(more, best) && shownAfter(house, set & ~more, n) <= v) {
                    best = more;
                }
            }
            return best;
        }

        static int fewestToBeCalled(House house, int v, int n) {
            int set = house.attending();
            int there = house.inClockRoom();
            int best = NONE;
            for (int called = 0; called < house.allSets(); called++) {
                if ((called & there) == 0 && isFewer(called, best) && shownAfter(house, set | called, n) >= v) {
                    best = called;
                }
            }
            return best;
        }

        private static boolean isFewer(int set, int best) {
            return best == NONE || Integer.bitCount(set) < Integer.bitCount(best);
        }

        private static boolean goesSo(House house, int set, Rows rows, int row, int i, int n) {
            for (int k = 0; k < n; k++) {
                if (house.partsOf(set, house.quarter + k) != rows.item(row, i + k)) {
                    return false;
                }
            }
            return true;
        }

        /** Bit s: by the set of ears s. Six ears have 64 sets, as many as a long has bits. */
        static long setsThatGoSo(House house, Rows rows, int row, int i, int n) {
            long sets = 0;
            for (int set = 0; set < house.allSets(); set++) {
                if (goesSo(house, set, rows, row, i, n)) {
                    sets |= 1L << set;
                }
            }
            return sets;
        }

        /** Each heed is tried in the ear's own place, which has its own again then. */
        static int heedsThatGoSo(House house, int ear, Rows rows, int row, int i, int n) {
            int set = house.attending();
            int own = house.heeds[ear];
            int heeds = 0;
            for (int heed = 1; heed <= MOST_HEED; heed++) {
                house.heeds[ear] = heed;
                if (goesSo(house, set, rows, row, i, n)) {
                    heeds |= 1 << heed - 1;
                }
            }
            house.heeds[ear] = own;
            return heeds;
        }

        static int livedAfter(House house, int ear, int n) {
            int byClock = partsAfter(house, house.attending(), n) - house.parts;
            return house.lived[ear] + (house.isInClockRoom(ear) ? byClock : House.SUNS_PARTS * n);
        }

        /** Of chancesInAll(): those by which the clock goes so many parts, or more, in this quarter. */
        static int chancesToGo(House house, int parts, int c) {
            int listening = house.listeningNow();
            int chances = 0;
            for (int set = 0; set < house.allSets(); set++) {
                if ((set & ~listening) == 0 && house.partsOf(set, house.quarter) >= parts) {
                    int heeding = power(TEN - c, Integer.bitCount(set));
                    chances += heeding * power(c, Integer.bitCount(listening & ~set));
                }
            }
            return chances;
        }

        static int chancesInAll(House house) {
            return power(TEN, Integer.bitCount(house.listeningNow()));
        }

        private static int power(int base, int times) {
            int power = 1;
            for (int i = 0; i < times; i++) {
                power *= base;
            }
            return power;
        }
    }

    /** The ACTS that can be undone, the latest last. */
    private static final class Acts {
        static final int QUARTER = 0, GOING = 1, HUSHING = 2, WOOL = 3;
        private static final int MOST_KEPT = 24;

        private final int[] deeds = new int[MOST_KEPT];
        private final int[] whose = new int[MOST_KEPT];
        private final int[] befores = new int[MOST_KEPT];
        int kept = 0;

        void forgetAll() {
            kept = 0;
        }

        void keep(int deed, int ear, int before) {
            if (kept >= MOST_KEPT) {
                forgetOldest();
            }
            deeds[kept] = deed;
            whose[kept] = ear;
            befores[kept] = before;
            kept++;
        }

        private void forgetOldest() {
            kept = MOST_KEPT - 1;
            System.arraycopy(deeds, 1, deeds, 0, kept);
            System.arraycopy(whose, 1, whose, 0, kept);
            System.arraycopy(befores, 1, befores, 0, kept);
        }

        void takeBackLatest(House house) {
            if (kept <= 0) {
                return;
            }
            kept--;
            int before = befores[kept];
            switch (deeds[kept]) {
                case GOING:
                    house.rooms[whose[kept]] = before;
                    break;
                case HUSHING:
                    house.setHushed(whose[kept], before == 1);
                    break;
                case WOOL:
                    house.wool = before;
                    break;
                default:
                    house.takeQuarterBack();
                    break;
            }
        }
    }

    /** ASKS of an EAR, by BODIES, and THE TRACE that they leave. */
    private static final class Asks {
        static final int ASK_SIZE = 0, ASK_MARK = 1;
        private static final int MOST_TRACED = 16;
        private static final int MOST_DEEP = 16;
        /** By KIND: the BODY told for it; 0: it has that of the nearest KIND. */
        private static final int[] SIZE_BODIES = {10, 11, 12, 0, 13, 14};
        private static final int[] MARK_BODIES = {20, 21, 24, 22, 23, 0};

        final int[] bodies = new int[MOST_TRACED];
        int begun = 0;
        private int number = 0;
        private int kindAsked = 0;
        private int heedAsked = 0;
        private int livedAsked = 0;

        int answer(House house, int ear, int what) {
            begun = 0;
            number = ear;
            kindAsked = house.kinds[ear];
            heedAsked = house.heeds[ear];
            livedAsked = house.lived[ear];
            return begin(what, 0);
        }

        private int begin(int what, int depth) {
            int body = bodyFor(kindAsked, what);
            if (body == 0) {
                body = bodyFor(Kinds.nearest(kindAsked), what);
            }
            return run(body, depth);
        }

        private static int bodyFor(int kind, int what) {
            if (!Kinds.isKind(kind)) {
                return 0;
            }
            return what == ASK_SIZE ? SIZE_BODIES[kind] : MARK_BODIES[kind];
        }

        /** What a body gives. No ask comes near MOST_DEEP: a widower's size, the deepest, is 5 deep. */
        private int run(int body, int depth) {
            if (depth >= MOST_DEEP) {
                return 0;
            }
            leaveTrace(body);
            int deeper = depth + 1;
            switch (body) {
                case 10:
                    return heedAsked;
                case 11:
                    return run(10, deeper) + begin(ASK_MARK, deeper);
                case 12:
                    return -run(11, deeper);
                case 13:
                    return run(10, deeper) - 100;
                case 14:
                    return 2 * run(13, deeper);
                case 20:
                    return number;
                case 21:
                    return run(20, deeper) + livedAsked;
                case 22:
                    return run(21, deeper) - 1000;
                case 23:
                    return run(20, deeper) - begin(ASK_SIZE, deeper);
                case 24:
                    return 2 * run(21, deeper);
                default:
                    return 0;
            }
        }

        private void leaveTrace(int body) {
            if (begun < MOST_TRACED) {
                bodies[begun] = body;
                begun++;
            }
        }
    }
}
