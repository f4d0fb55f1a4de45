/**
 * A town whose notices are printed a week ahead of the deaths they tell of.
 *
 * What each call must answer stands in ../shared/DOC.md; words in capitals there keep their meaning
 * here. No call throws: a refusal is an answer (BAD, STATE, FULL or a FINDING).
 */
public final class NoticeWeek {
    public static final int NONE = -1000000, BAD = -1000001, STATE = -1000002, FULL = -1000003;

    /** A FINDING is answered as this less its number. */
    private static final int FINDINGS = -1000010;
    private static final int NULL = 1, PLACE = 2, KIND = 3, SIZE = 4, STORE = 5;

    /** A FAULT of a TEXT is answered as this less its place. */
    private static final int FAULTS = -1000100;

    private static final int READER = 0, PROUD = 1, VAIN = 2, SHY = 3, CROSS = 4, CALM = 5;

    private static final int MOST_READERS = 6;
    private static final int DEEDS = 6;
    private static final int ALL_DEEDS = 63;
    private static final int MOST_DAYS = 60;
    /** Nobody has more DAYS than this: behind so many all are dead. */
    private static final int IN_THE_END = MOST_DAYS;
    private static final int MOST_DAYS_A_CALL = 20;
    private static final int LAST_DAY = 999;
    private static final int MOST_ACTS = 24;
    private static final int IMAGES = 2;
    private static final int MOST_TOLD_DAYS = 16;

    private final Rows rows = new Rows();
    private final Tape tape = new Tape();
    private final Town town = new Town();
    private final Town draft = new Town();
    private final Town[] images = new Town[IMAGES];
    /** The TOWN as it was ahead of each ACT, in a ring: made once, so that no ACT makes anything. */
    private final Town[] acts = new Town[MOST_ACTS];
    private int undoable = 0;
    private int nextAct = 0;
    private final Foresight foresight = new Foresight();
    private final Trace trace = new Trace();
    private int finding = 0;

    public NoticeWeek() {
        for (int k = 0; k < IMAGES; k++) {
            images[k] = new Town();
        }
        for (int k = 0; k < MOST_ACTS; k++) {
            acts[k] = new Town();
        }
    }

    // ---- rows

    public int row(int row, int lane, int n) {
        if (!Rows.isRow(row) || !Rows.isLane(lane) || n > Rows.MOST_ITEMS) {
            return BAD;
        }
        if (n < 0) {
            return found(SIZE);
        }
        rows.make(row, lane, n);
        return well(n);
    }

    public int set(int row, int i, int v) {
        if (!Rows.isRow(row)) {
            return BAD;
        }
        int lack = lackOf(row, i, 1);
        if (lack != 0) {
            return found(lack);
        }
        return well(rows.put(row, i, v));
    }

    public int copy(int a, int i, int b, int j, int n) {
        if (!Rows.isRow(a) || !Rows.isRow(b)) {
            return BAD;
        }
        if (rows.isMissing(a) || rows.isMissing(b)) {
            return found(NULL);
        }
        if (rows.laneOf(a) != rows.laneOf(b)) {
            return found(STORE);
        }
        if (!rows.hasPlaces(a, i, n) || !rows.hasPlaces(b, j, n)) {
            return found(PLACE);
        }
        rows.move(a, i, b, j, n);
        return well(n);
    }

    public int drop(int row) {
        if (!Rows.isRow(row)) {
            return BAD;
        }
        if (rows.isMissing(row)) {
            return found(NULL);
        }
        int had = rows.sizeOf(row);
        rows.lose(row);
        return well(had);
    }

    // ---- towns, acts

    public int feed(int letter) {
        if (letter < 0 || letter > 255) {
            return BAD;
        }
        if (tape.isFull()) {
            return FULL;
        }
        return tape.append(letter);
    }

    public int town() {
        int place = tape.readInto(draft);
        if (place != Tape.NO_FAULT) {
            return FAULTS - place;
        }
        town.become(draft);
        forgetActs();
        return town.readers;
    }

    public int fault() {
        return tape.latestFault;
    }

    public int days(int n) {
        if (!town.stands) {
            return STATE;
        }
        if (n < 1 || n > MOST_DAYS_A_CALL) {
            return BAD;
        }
        if (town.day + n > LAST_DAY) {
            return FULL;
        }
        for (int k = 0; k < n; k++) {
            keepAct();
            passDay();
        }
        return town.living();
    }

    public int write(int reader, int notice) {
        if (!town.has(reader) || !isSetOfDeeds(notice)) {
            return BAD;
        }
        if (!town.lives(reader)) {
            return STATE;
        }
        keepAct();
        int before = town.notice[reader];
        town.notice[reader] = notice;
        return before;
    }

    public int deny(int reader, int deed) {
        if (!town.has(reader) || deed < 0 || deed >= DEEDS) {
            return BAD;
        }
        int bit = 1 << deed;
        if ((town.did[reader] & bit) == 0) {
            return STATE;
        }
        keepAct();
        town.did[reader] &= ~bit;
        return town.did[reader];
    }

    public int spare(int reader, int n) {
        if (!town.has(reader) || n < 1 || n > MOST_DAYS) {
            return BAD;
        }
        if (!town.lives(reader)) {
            return STATE;
        }
        keepAct();
        town.left[reader] = Math.min(MOST_DAYS, town.left[reader] + n);
        return town.left[reader];
    }

    public int undo() {
        if (undoable == 0) {
            return STATE;
        }
        nextAct = (nextAct + MOST_ACTS - 1) % MOST_ACTS;
        undoable--;
        town.become(acts[nextAct]);
        return undoable;
    }

    public int reader(int reader, int what) {
        if (!town.has(reader)) {
            return BAD;
        }
        switch (what) {
            case 0: return town.did[reader];
            case 1: return town.notice[reader];
            case 2: return town.left[reader];
            case 3: return town.falseLinesNow(reader);
            case 4: return foresight.doesToday(town, reader);
            default: return BAD;
        }
    }

    // ---- foretold

    public int deeds(int reader, int d) {
        if (!town.has(reader) || !isDaysAhead(d)) {
            return BAD;
        }
        return foresight.doneBehind(town, reader, d, town.did[reader], town.notice[reader]);
    }

    public int lines(int reader, int d) {
        if (!town.has(reader) || !isDaysAhead(d)) {
            return BAD;
        }
        return foresight.falseLinesBehind(town, reader, d);
    }

    public int dead(int d) {
        if (!town.stands) {
            return STATE;
        }
        if (!isDaysAhead(d)) {
            return BAD;
        }
        return town.deadBehind(d);
    }

    public int ends(int reader) {
        if (!town.has(reader)) {
            return BAD;
        }
        return foresight.falseLinesBehind(town, reader, IN_THE_END);
    }

    public int first(int what) {
        if (!town.stands) {
            return STATE;
        }
        if (!isChoice(what)) {
            return BAD;
        }
        int who = foresight.firstUntrue(town);
        return who == NONE || what == 0 ? who : town.left[who];
    }

    public int toWrite(int reader, int deeds, int what) {
        if (!town.has(reader) || !isSetOfDeeds(deeds) || !isChoice(what)) {
            return BAD;
        }
        if (!town.lives(reader)) {
            return STATE;
        }
        int notice = foresight.noticeToWrite(town, reader, deeds);
        if (notice == NONE || what == 1) {
            return notice;
        }
        return falseLines(foresight.doneBehind(town, reader, IN_THE_END, town.did[reader], notice), notice);
    }

    public int toDeny(int reader, int what) {
        if (!town.has(reader) || !isChoice(what)) {
            return BAD;
        }
        int denied = foresight.deedsToDeny(town, reader);
        return denied == NONE || what == 1 ? denied : Integer.bitCount(denied);
    }

    public int print(int what) {
        if (!town.stands) {
            return STATE;
        }
        if (!isChoice(what)) {
            return BAD;
        }
        int printed = town.readersToPrint();
        return what == 1 ? printed : town.deedsPrinted(printed);
    }

    public int temper(int reader, int row, int i, int n) {
        if (!town.has(reader) || !Rows.isRow(row) || !isToldDays(n)) {
            return BAD;
        }
        int lack = lackOf(row, i, n);
        if (lack != 0) {
            return found(lack);
        }
        int kinds = 0;
        for (int kind = PROUD; kind <= CALM; kind++) {
            foresight.layCourse(town, reader, kind, town.notice[reader]);
            if (rows.tell(row, i, n, foresight.course)) {
                kinds |= 1 << kind;
            }
        }
        return well(kinds);
    }

    public int told(int reader, int row, int i, int n, int what) {
        if (!town.has(reader) || !Rows.isRow(row) || !isToldDays(n) || !isChoice(what)) {
            return BAD;
        }
        int lack = lackOf(row, i, n);
        if (lack != 0) {
            return found(lack);
        }
        int many = 0;
        int leastNotice = NONE;
        // Downwards, so that the least one is the last that is met.
        for (int notice = ALL_DEEDS; notice >= 0; notice--) {
            foresight.layCourse(town, reader, town.kind[reader], notice);
            if (rows.tell(row, i, n, foresight.course)) {
                many++;
                leastNotice = notice;
            }
        }
        return well(what == 0 ? many : leastNotice);
    }

    public int odds(int k, int c, int what) {
        if (!town.stands) {
            return STATE;
        }
        if (k < 0 || k > MOST_READERS || c < 0 || c > 10 || !isChoice(what)) {
            return BAD;
        }
        int all = tenToThe(town.readers);
        int good = foresight.waysToBeTrue(town, k, c);
        int common = greatestDivisor(good, all);
        int part = what == 0 ? good : all;
        return common > 1 ? part / common : part;
    }

    public int image(int k) {
        if (!isImage(k)) {
            return BAD;
        }
        if (!town.stands) {
            return STATE;
        }
        images[k].become(town);
        return 1;
    }

    public int restore(int k) {
        if (!isImage(k)) {
            return BAD;
        }
        if (!images[k].stands) {
            return STATE;
        }
        town.become(images[k]);
        forgetActs();
        return 1;
    }

    // ---- asked

    public int kind(int reader) {
        return town.has(reader) ? town.kind[reader] : BAD;
    }

    public int as(int reader, int kind) {
        if (!town.has(reader) || kind < READER || kind > CALM) {
            return BAD;
        }
        if (!isOfKind(foresight.temperOf(town.kind[reader]), kind)) {
            return found(KIND);
        }
        return well(reader);
    }

    public int ask(int reader, int what) {
        if (!town.has(reader) || !isChoice(what)) {
            return BAD;
        }
        trace.clear();
        Temper asked = foresight.temperOf(town.kind[reader]);
        return what == 0 ? asked.size(town, reader, trace) : asked.mark(town, reader, trace);
    }

    public int trace(int i) {
        return trace.numberAt(i);
    }

    public int count(int what) {
        switch (what) {
            case 0: return rows.present();
            case 1: return town.readers;
            case 2: return Integer.bitCount(town.living());
            case 3: return town.day;
            case 4: return town.lines;
            case 5: return town.trueNow();
            case 6: return undoable;
            case 7: return tape.length;
            default: return BAD;
        }
    }

    public int status() {
        return finding;
    }

    // ---- what the calls share

    private int found(int number) {
        finding = number;
        return FINDINGS - number;
    }

    private int well(int answer) {
        finding = 0;
        return answer;
    }

    /** The FINDING of n ITEMS of a ROW from i on; 0 if they are there. */
    private int lackOf(int row, int i, int n) {
        if (rows.isMissing(row)) {
            return NULL;
        }
        return rows.hasPlaces(row, i, n) ? 0 : PLACE;
    }

    private void keepAct() {
        acts[nextAct].become(town);
        nextAct = (nextAct + 1) % MOST_ACTS;
        undoable = Math.min(MOST_ACTS, undoable + 1);
    }

    private void forgetActs() {
        undoable = 0;
    }

    private void passDay() {
        for (int r = 0; r < town.readers; r++) {
            if (town.lives(r)) {
                town.did[r] |= foresight.doesToday(town, r);
                town.left[r]--;
            }
        }
        town.day++;
    }

    private static boolean isChoice(int what) {
        return what == 0 || what == 1;
    }

    private static boolean isImage(int k) {
        return k >= 0 && k < IMAGES;
    }

    private static boolean isSetOfDeeds(int set) {
        return set >= 0 && set <= ALL_DEEDS;
    }

    private static boolean isDaysAhead(int d) {
        return d >= 0 && d <= MOST_DAYS;
    }

    private static boolean isToldDays(int n) {
        return n >= 1 && n <= MOST_TOLD_DAYS;
    }

    private static boolean isOfKind(Temper one, int kind) {
        switch (kind) {
            case READER: return true;
            case PROUD: return one instanceof Proud;
            case VAIN: return one instanceof Vain;
            case SHY: return one instanceof Shy;
            case CROSS: return one instanceof Cross;
            case CALM: return one instanceof Calm;
            default: return false;
        }
    }

    private static int falseLines(int did, int notice) {
        return Integer.bitCount(did ^ notice);
    }

    private static int least(int deeds) {
        return deeds & -deeds;
    }

    private static int tenToThe(int n) {
        int power = 1;
        for (int i = 0; i < n; i++) {
            power *= 10;
        }
        return power;
    }

    /** Of b above 0 and a not below 0: never 0; by a = 0 it is b, so that 0 is told as 0 by 1. */
    private static int greatestDivisor(int a, int b) {
        int more = b;
        int less = a;
        // A remainder is halved at least every second round, so an int needs fewer than 64.
        for (int round = 0; round < 64 && less != 0; round++) {
            int rest = more % less;
            more = less;
            less = rest;
        }
        return more;
    }

    /** The ROWS: all ITEMS in one array, made once, so that no call makes anything. */
    private static final class Rows {
        static final int MOST_ITEMS = 40;
        private static final int ROWS = 8;
        private static final int BYTES = 0, SHORTS = 1, INTS = 2;
        private static final int MISSING = -1;

        private final int[] items = new int[ROWS * MOST_ITEMS];
        private final int[] lanes = new int[ROWS];
        private final int[] sizes = new int[ROWS];

        Rows() {
            for (int row = 0; row < ROWS; row++) {
                lanes[row] = MISSING;
            }
        }

        static boolean isRow(int row) {
            return row >= 0 && row < ROWS;
        }

        static boolean isLane(int lane) {
            return lane >= BYTES && lane <= INTS;
        }

        boolean isMissing(int row) {
            return lanes[row] == MISSING;
        }

        int laneOf(int row) {
            return lanes[row];
        }

        int sizeOf(int row) {
            return sizes[row];
        }

        /** Written so that no sum can wrap around, whatever i and n are. */
        boolean hasPlaces(int row, int i, int n) {
            return i >= 0 && n >= 0 && n <= sizes[row] && i <= sizes[row] - n;
        }

        void make(int row, int lane, int n) {
            lanes[row] = lane;
            sizes[row] = n;
            for (int i = 0; i < n; i++) {
                items[row * MOST_ITEMS + i] = 0;
            }
        }

        void lose(int row) {
            lanes[row] = MISSING;
            sizes[row] = 0;
        }

        int put(int row, int i, int v) {
            int kept = lanes[row] == BYTES ? (byte) v : lanes[row] == SHORTS ? (short) v : v;
            items[row * MOST_ITEMS + i] = kept;
            return kept;
        }

        void move(int a, int i, int b, int j, int n) {
            System.arraycopy(items, a * MOST_ITEMS + i, items, b * MOST_ITEMS + j, n);
        }

        boolean tell(int row, int i, int n, int[] course) {
            for (int k = 0; k < n; k++) {
                if (items[row * MOST_ITEMS + i + k] != course[k]) {
                    return false;
                }
            }
            return true;
        }

        int present() {
            int many = 0;
            for (int row = 0; row < ROWS; row++) {
                if (lanes[row] != MISSING) {
                    many++;
                }
            }
            return many;
        }
    }

    /** THE TAPE, and how a TOWN is read from it. */
    private static final class Tape {
        static final int NO_FAULT = -1;
        private static final int MOST_BYTES = 120;
        private static final int MOST_LINES = 36;
        private static final int MOST_FIGURES = 2;
        private static final int MISPLACED = 1, WRONG_NUMBER = 2, NO_ROOM = 3;

        private final int[] bytes = new int[MOST_BYTES];
        int length = 0;
        int latestFault = 0;
        /** Where the next TOKEN begins; it stays at the first one that has a FAULT. */
        private int at = 0;
        /** The FAULT of this reading, 0 as long as there is none. */
        private int flaw = 0;

        boolean isFull() {
            return length >= MOST_BYTES;
        }

        int append(int letter) {
            bytes[length] = letter;
            length++;
            return length;
        }

        /** Reads and empties the tape: the place of a FAULT, or NO_FAULT, and then the draft stands. */
        int readInto(Town draft) {
            at = 0;
            flaw = 0;
            draft.clear();
            readLaw(draft);
            // One round more than there is room for: there the reader too many is found.
            for (int n = 0; n <= MOST_READERS && flaw == 0 && at < length; n++) {
                readReader(draft);
            }
            length = 0;
            if (flaw != 0) {
                latestFault = flaw;
                return at;
            }
            draft.stands = true;
            return NO_FAULT;
        }

        private void readLaw(Town draft) {
            takeSign('w');
            draft.lines = takeNumber(MOST_LINES);
            takeSign(';');
        }

        private void readReader(Town draft) {
            int kind = at < length ? kindOfSort(bytes[at]) : READER;
            if (kind == READER) {
                flaw = MISPLACED;
                return;
            }
            if (draft.readers >= MOST_READERS) {
                flaw = NO_ROOM;
                return;
            }
            at++;
            int did = takeNumber(ALL_DEEDS);
            takeSign(',');
            int notice = takeNumber(ALL_DEEDS);
            takeSign(',');
            int left = takeNumber(MOST_DAYS);
            takeSign(';');
            if (flaw == 0) {
                draft.add(kind, did, notice, left);
            }
        }

        /** READER stands for a letter that is no SORT. */
        private static int kindOfSort(int letter) {
            switch (letter) {
                case 'p': return PROUD;
                case 'v': return VAIN;
                case 's': return SHY;
                case 'c': return CROSS;
                case 'k': return CALM;
                default: return READER;
            }
        }

        private void takeSign(char sign) {
            if (flaw != 0) {
                return;
            }
            if (at < length && bytes[at] == sign) {
                at++;
            } else {
                flaw = MISPLACED;
            }
        }

        private int takeNumber(int most) {
            if (flaw != 0) {
                return 0;
            }
            int value = 0;
            int end = at;
            // One figure more than a NUMBER has shows that the run is none.
            while (end < length && end - at <= MOST_FIGURES && isFigure(bytes[end])) {
                value = value * 10 + bytes[end] - '0';
                end++;
            }
            if (end == at || end - at > MOST_FIGURES) {
                flaw = MISPLACED;
                return 0;
            }
            if (value > most) {
                flaw = WRONG_NUMBER;
                return 0;
            }
            at = end;
            return value;
        }

        private static boolean isFigure(int letter) {
            return letter >= '0' && letter <= '9';
        }
    }

    /** A TOWN: the one that stands, an IMAGE, what was ahead of an ACT, or one that is being read. */
    private static final class Town {
        boolean stands = false;
        int day = 0;
        int lines = 0;
        int readers = 0;
        final int[] kind = new int[MOST_READERS];
        final int[] did = new int[MOST_READERS];
        final int[] notice = new int[MOST_READERS];
        final int[] left = new int[MOST_READERS];

        void clear() {
            stands = false;
            day = 0;
            lines = 0;
            readers = 0;
        }

        void add(int itsKind, int itsDeeds, int itsNotice, int itsDays) {
            if (readers >= MOST_READERS) {
                return;
            }
            kind[readers] = itsKind;
            did[readers] = itsDeeds;
            notice[readers] = itsNotice;
            left[readers] = itsDays;
            readers++;
        }

        void become(Town other) {
            stands = other.stands;
            day = other.day;
            lines = other.lines;
            readers = other.readers;
            for (int r = 0; r < MOST_READERS; r++) {
                kind[r] = other.kind[r];
                did[r] = other.did[r];
                notice[r] = other.notice[r];
                left[r] = other.left[r];
            }
        }

        boolean has(int reader) {
            return reader >= 0 && reader < readers;
        }

        boolean lives(int reader) {
            return left[reader] > 0;
        }

        int deadBehind(int d) {
            int bits = 0;
            for (int r = 0; r < readers; r++) {
                if (left[r] <= d) {
                    bits |= 1 << r;
                }
            }
            return bits;
        }

        int living() {
            return ((1 << readers) - 1) & ~deadBehind(0);
        }

        int falseLinesNow(int reader) {
            return falseLines(did[reader], notice[reader]);
        }

        int trueNow() {
            int many = 0;
            for (int r = 0; r < readers; r++) {
                if (falseLinesNow(r) == 0) {
                    many++;
                }
            }
            return many;
        }

        int readersToPrint() {
            int best = 0;
            // Upwards from none, and only for a better one: so the least bits stay of several.
            for (int some = 1; some < 1 << readers; some++) {
                if (linesPrinted(some) <= lines && isBetterPrinted(some, best)) {
                    best = some;
                }
            }
            return best;
        }

        private boolean isBetterPrinted(int some, int best) {
            int more = deedsPrinted(some) - deedsPrinted(best);
            return more > 0 || more == 0 && Integer.bitCount(some) < Integer.bitCount(best);
        }

        private int linesPrinted(int some) {
            int many = 0;
            for (int r = 0; r < readers; r++) {
                if ((some >> r & 1) != 0) {
                    many += Integer.bitCount(notice[r]);
                }
            }
            return many;
        }

        int deedsPrinted(int some) {
            int many = 0;
            for (int r = 0; r < readers; r++) {
                if ((some >> r & 1) != 0) {
                    many += Integer.bitCount(notice[r] & did[r]);
                }
            }
            return many;
        }
    }

    /** What is FORETOLD of a TOWN's readers. */
    private static final class Foresight {
        /**
         * Days behind which a reader does nothing new: of its 6 DEEDS one is done each DAY, or each
         * second one (by a calm one), or none ever again.
         */
        private static final int SETTLED = 2 * DEEDS;

        private final Temper proud = new Proud();
        private final Temper vain = new Vain();
        private final Temper shy = new Shy();
        private final Temper cross = new Cross();
        private final Temper calm = new Calm();
        /** What one will have done behind each DAY, as layCourse() left it. */
        final int[] course = new int[MOST_TOLD_DAYS];
        private final int[] ways = new int[MOST_READERS + 1];

        Temper temperOf(int kind) {
            switch (kind) {
                case PROUD: return proud;
                case VAIN: return vain;
                case SHY: return shy;
                case CROSS: return cross;
                default: return calm;
            }
        }

        int doesToday(Town town, int reader) {
            if (!town.lives(reader)) {
                return 0;
            }
            Temper temper = temperOf(town.kind[reader]);
            return temper.deedsOn(town.day, town.did[reader], town.notice[reader]);
        }

        /**
         * What one will have done d DAYS from now, if up to now it did, and its NOTICE tells, what is
         * given. By IN_THE_END: when it dies.
         */
        int doneBehind(Town town, int reader, int d, int did, int notice) {
            Temper temper = temperOf(town.kind[reader]);
            int busy = Math.min(SETTLED, Math.min(d, town.left[reader]));
            int done = did;
            for (int i = 0; i < busy; i++) {
                done |= temper.deedsOn(town.day + i, done, notice);
            }
            return done;
        }

        int falseLinesBehind(Town town, int reader, int d) {
            int notice = town.notice[reader];
            return falseLines(doneBehind(town, reader, d, town.did[reader], notice), notice);
        }

        int firstUntrue(Town town) {
            int who = NONE;
            int soonest = MOST_DAYS + 1;
            for (int r = 0; r < town.readers; r++) {
                boolean sooner = town.lives(r) && town.left[r] < soonest;
                if (sooner && falseLinesBehind(town, r, IN_THE_END) > 0) {
                    who = r;
                    soonest = town.left[r];
                }
            }
            return who;
        }

        int noticeToWrite(Town town, int reader, int deeds) {
            int best = NONE;
            int fewest = DEEDS + 1;
            for (int notice = 0; notice <= ALL_DEEDS; notice++) {
                int done = doneBehind(town, reader, IN_THE_END, town.did[reader], notice);
                int untrue = falseLines(done, notice);
                if ((deeds & ~done) == 0 && untrue < fewest) {
                    best = notice;
                    fewest = untrue;
                }
            }
            return best;
        }

        int deedsToDeny(Town town, int reader) {
            int best = NONE;
            int fewest = DEEDS + 1;
            int did = town.did[reader];
            int notice = town.notice[reader];
            for (int some = 0; some <= ALL_DEEDS; some++) {
                boolean fewer = (some & ~did) == 0 && Integer.bitCount(some) < fewest;
                if (fewer && doneBehind(town, reader, IN_THE_END, did & ~some, notice) == notice) {
                    best = some;
                    fewest = Integer.bitCount(some);
                }
            }
            return best;
        }

        void layCourse(Town town, int reader, int kind, int notice) {
            Temper temper = temperOf(kind);
            int done = town.did[reader];
            for (int i = 0; i < MOST_TOLD_DAYS; i++) {
                if (i < town.left[reader]) {
                    done |= temper.deedsOn(town.day + i, done, notice);
                }
                course[i] = done;
            }
        }

        /** In how many of ten to the number of readers equal ways k NOTICES, or more, are TRUE. */
        int waysToBeTrue(Town town, int k, int c) {
            ways[0] = 1;
            for (int r = 0; r < town.readers; r++) {
                addReader(r, tenthsToBeTrue(town, r, c));
            }
            int sum = 0;
            for (int many = k; many <= town.readers; many++) {
                sum += ways[many];
            }
            return sum;
        }

        private void addReader(int readersBefore, int tenths) {
            ways[readersBefore + 1] = ways[readersBefore] * tenths;
            for (int many = readersBefore; many > 0; many--) {
                ways[many] = ways[many] * (10 - tenths) + ways[many - 1] * tenths;
            }
            ways[0] *= 10 - tenths;
        }

        private int tenthsToBeTrue(Town town, int reader, int c) {
            int did = town.did[reader];
            int notice = town.notice[reader];
            int byDeathNow = did == notice ? c : 0;
            // For a dead one the end is now: so it is 10 or 0, whatever c is.
            int byLivingOn = doneBehind(town, reader, IN_THE_END, did, notice) == notice ? 10 - c : 0;
            return byDeathNow + byLivingOn;
        }
    }

    /** A READER by its temper; its SIZE and MARK here are those lent to all. */
    private abstract static class Temper {
        /** What one does on a DAY that it lives (bits). */
        abstract int deedsOn(int day, int did, int notice);

        int size(Town town, int reader, Trace trace) {
            trace.leave(10);
            return Integer.bitCount(town.notice[reader]);
        }

        int mark(Town town, int reader, Trace trace) {
            trace.leave(20);
            return reader;
        }
    }

    private static class Proud extends Temper {
        int deedsOn(int day, int did, int notice) {
            return least(notice & ~did);
        }

        int size(Town town, int reader, Trace trace) {
            trace.leave(11);
            return super.size(town, reader, trace) + mark(town, reader, trace);
        }

        int mark(Town town, int reader, Trace trace) {
            trace.leave(21);
            return super.mark(town, reader, trace) + Integer.bitCount(town.did[reader]);
        }
    }

    private static final class Vain extends Proud {
        int deedsOn(int day, int did, int notice) {
            int one = super.deedsOn(day, did, notice);
            return one | least(notice & ~did & ~one);
        }

        int size(Town town, int reader, Trace trace) {
            trace.leave(12);
            return -super.size(town, reader, trace);
        }

        int mark(Town town, int reader, Trace trace) {
            trace.leave(24);
            return 2 * super.mark(town, reader, trace);
        }
    }

    private static final class Shy extends Proud {
        private static final int MOST_DARED = 2;

        int deedsOn(int day, int did, int notice) {
            return Integer.bitCount(notice & ~did) <= MOST_DARED ? super.deedsOn(day, did, notice) : 0;
        }

        int mark(Town town, int reader, Trace trace) {
            trace.leave(22);
            return super.mark(town, reader, trace) - 1000;
        }
    }

    private static class Cross extends Temper {
        int deedsOn(int day, int did, int notice) {
            return least(ALL_DEEDS & ~notice & ~did);
        }

        int size(Town town, int reader, Trace trace) {
            trace.leave(13);
            return super.size(town, reader, trace) - 100;
        }

        int mark(Town town, int reader, Trace trace) {
            trace.leave(23);
            return super.mark(town, reader, trace) - size(town, reader, trace);
        }
    }

    private static final class Calm extends Cross {
        int deedsOn(int day, int did, int notice) {
            return day % 2 == 0 ? super.deedsOn(day, did, notice) : 0;
        }

        int size(Town town, int reader, Trace trace) {
            trace.leave(14);
            return 2 * super.size(town, reader, trace);
        }
    }

    /** THE TRACE of the latest ASK. */
    private static final class Trace {
        private static final int MOST_NUMBERS = 16;

        private final int[] numbers = new int[MOST_NUMBERS];
        private int length = 0;

        void clear() {
            length = 0;
        }

        void leave(int number) {
            if (length < MOST_NUMBERS) {
                numbers[length] = number;
                length++;
            }
        }

        int numberAt(int i) {
            return i >= 0 && i < length ? numbers[i] : NONE;
        }
    }
}
