/**
 * Lava let in as a lodger: rooms in a row, the lava that is fed into them, and the things and
 * people that go on ahead of it. The document ../shared/DOC.md tells what each call answers.
 *
 * Every row that a call needs is made in a constructor and used again, since all calls of a run
 * share one bounded room for what is made.
 */
public final class LavaLodger {
    public static final int NONE = -1000000, BAD = -1000001, STATE = -1000002, FULL = -1000003;

    private static final int FINDINGS = -1000010;
    private static final int FAULTS = -1000100;
    private static final int NO_FINDING = 0;
    private static final int MISSING_ROW = 1;
    private static final int NO_PLACE = 2;
    private static final int NOT_THAT_KIND = 3;
    private static final int FEWER_THAN_NONE = 4;
    private static final int TWO_LANES = 5;

    private static final int MOST_ROOMS = 10;
    private static final int MOST_THINGS = 6;
    private static final int LEAST_ROOMS = 3;
    private static final int MOST_FEED = 20;
    private static final int MOST_STOP = 60;
    private static final int MOST_FLOOR = 9;
    private static final int MOST_HIGH = 9;
    private static final int MOST_WALL = 9;
    private static final int MOST_DAY = 999;
    private static final int MOST_ACTS = 24;
    private static final int MOST_FORETOLD = 60;
    private static final int MOST_TRIED = 40;
    private static final int MOST_TOLD = 12;
    private static final int IMAGES = 2;

    // Where a THING is, in one number, as AHEAD tells it: below OUT it stands in that ROOM.
    private static final int OUT = 20;
    private static final int STONE = 30;

    private static final int CHAIR = 1;
    private static final int CLOCK = 2;
    private static final int TABLE = 3;
    private static final int PERSON = 4;
    private static final int AUNT = 5;
    private static final int[] KIND_ABOVE = {-1, 0, CHAIR, CHAIR, 0, PERSON};
    private static final int KINDS = 6;

    private final Rows rows = new Rows();
    private final Tape tape = new Tape();
    private final Village now = new Village();
    private final Past past = new Past();
    private final Village[] images = new Village[IMAGES];
    private final Seer seer = new Seer();
    private final Carrier carrier = new Carrier();
    private final Turns turns = new Turns();
    private final Asker asker = new Asker();
    private int latestFinding = NO_FINDING;

    public LavaLodger() {
        for (int k = 0; k < IMAGES; k++) {
            images[k] = new Village();
        }
    }

    // ---- rows

    public int row(int row, int lane, int n) {
        if (!rows.isNumber(row) || !within(lane, 0, Rows.LANES - 1) || n > Rows.MOST_ITEMS) {
            return BAD;
        }
        if (n < 0) {
            return found(FEWER_THAN_NONE);
        }
        rows.make(row, lane, n);
        return unfound(n);
    }

    public int set(int row, int i, int v) {
        if (!rows.isNumber(row)) {
            return BAD;
        }
        int finding = rows.findingAt(row, i, 1);
        if (finding != NO_FINDING) {
            return found(finding);
        }
        return unfound(rows.put(row, i, v));
    }

    public int copy(int a, int i, int b, int j, int n) {
        if (!rows.isNumber(a) || !rows.isNumber(b)) {
            return BAD;
        }
        int finding = rows.findingBetween(a, i, b, j, n);
        if (finding != NO_FINDING) {
            return found(finding);
        }
        rows.move(a, i, b, j, n);
        return unfound(n);
    }

    public int drop(int row) {
        if (!rows.isNumber(row)) {
            return BAD;
        }
        if (rows.isMissing(row)) {
            return found(MISSING_ROW);
        }
        return unfound(rows.lose(row));
    }

    // ---- what is told

    public int feed(int letter) {
        if (!within(letter, 0, 255)) {
            return BAD;
        }
        return tape.takeByte(letter) ? tape.bytes : FULL;
    }

    public int street() {
        if (!tape.read()) {
            return FAULTS - tape.faultPlace;
        }
        now.become(tape.draft);
        past.forget();
        return now.things;
    }

    public int fault() {
        return tape.faultNumber;
    }

    public int undo() {
        return past.goBack(now) ? past.acts : STATE;
    }

    // ---- what is done

    public int days(int n) {
        if (!isStreet()) {
            return STATE;
        }
        if (!within(n, 1, MOST_ACTS)) {
            return BAD;
        }
        if (now.day + n > MOST_DAY) {
            return FULL;
        }
        for (int d = 0; d < n; d++) {
            past.keep(now);
            now.pass();
        }
        return now.stones();
    }

    public int wall(int wall, int v) {
        if (!isRoom(wall) || !within(v, 0, MOST_WALL)) {
            return BAD;
        }
        int was = now.wall[wall];
        past.keep(now);
        now.wall[wall] = v;
        return was;
    }

    public int carry(int thing) {
        if (!isThing(thing)) {
            return BAD;
        }
        if (!now.stands(thing)) {
            return STATE;
        }
        past.keep(now);
        now.place(thing, now.carried(now.where[thing]));
        return now.where[thing];
    }

    public int feeding(int v) {
        if (!isStreet()) {
            return STATE;
        }
        if (!within(v, 0, MOST_FEED)) {
            return BAD;
        }
        int was = now.feed;
        past.keep(now);
        now.feed = v;
        return was;
    }

    public int dig(int thing) {
        if (!isThing(thing)) {
            return BAD;
        }
        if (now.where[thing] < STONE) {
            return STATE;
        }
        past.keep(now);
        now.place(thing, OUT);
        return now.stones();
    }

    public int thing(int thing, int what) {
        if (!isThing(thing)) {
            return BAD;
        }
        switch (what) {
            case 0:
                return now.high[thing];
            case 1:
                return now.where[thing];
            case 2:
                return now.where[thing] == OUT ? 0 : now.lava[now.last[thing]];
            default:
                return BAD;
        }
    }

    public int roomOf(int room, int what) {
        if (!isRoom(room)) {
            return BAD;
        }
        switch (what) {
            case 0:
                return now.floor[room];
            case 1:
                return now.lava[room];
            case 2:
                return now.wall[room];
            case 3:
                return now.allAt(room);
            case 4:
                return now.allAt(STONE + room);
            default:
                return BAD;
        }
    }

    public int stand(int what) {
        if (!isStreet()) {
            return STATE;
        }
        switch (what) {
            case 0:
                return now.rooms;
            case 1:
                return now.feed;
            case 2:
                return now.stop;
            case 3:
                return now.standing();
            case 4:
                return now.stones();
            case 5:
                return now.allAt(OUT);
            default:
                return BAD;
        }
    }

    // ---- foretold

    public int ahead(int thing, int n) {
        if (!isThing(thing) || !within(n, 0, MOST_FORETOLD)) {
            return BAD;
        }
        return seer.placeBehind(now, thing, n);
    }

    public int lava(int room, int n) {
        if (!isRoom(room) || !within(n, 0, MOST_FORETOLD)) {
            return BAD;
        }
        return seer.lavaBehind(now, room, n);
    }

    public int kept(int n, int what) {
        if (!isStreet()) {
            return STATE;
        }
        if (!within(n, 0, MOST_FORETOLD) || !within(what, 0, 1)) {
            return BAD;
        }
        return what == 0 ? seer.stonesBehind(now, n) : seer.outsBehind(now, n);
    }

    public int when(int thing, int how) {
        if (!isThing(thing) || !within(how, 0, 2)) {
            return BAD;
        }
        return seer.firstDay(now, thing, how);
    }

    public int front(int n) {
        if (!isStreet()) {
            return STATE;
        }
        if (!within(n, 0, MOST_FORETOLD)) {
            return BAD;
        }
        return seer.frontBehind(now, n);
    }

    public int carries(int n, int m, int k) {
        if (!isStreet()) {
            return STATE;
        }
        if (!within(n, 1, Carrier.MOST_CARRIES) || !within(m, 0, Carrier.MOST_AFTER) || k < -1) {
            return BAD;
        }
        carrier.search(now, n, m);
        return k == -1 ? carrier.fewest : carrier.choiceAt(k);
    }

    public int dam(int v, int n, int what) {
        if (!isStreet()) {
            return STATE;
        }
        if (!within(v, 1, MOST_WALL) || !within(n, 1, MOST_TRIED) || !within(what, 0, 1)) {
            return BAD;
        }
        int wall = seer.bestDam(now, v, n);
        return what == 0 ? wall : seer.stonesWithDam(now, wall, v, n);
    }

    public int hold(int room, int wall, int n) {
        if (!isRoom(room) || !isRoom(wall) || !within(n, 1, MOST_TRIED)) {
            return BAD;
        }
        return seer.leastWall(now, room, wall, n);
    }

    public int spare(int n) {
        if (!isStreet()) {
            return STATE;
        }
        if (!within(n, 1, MOST_TRIED)) {
            return BAD;
        }
        return seer.mostFeed(now, n);
    }

    public int sets(int v, int what) {
        if (!isStreet()) {
            return STATE;
        }
        if (!within(v, 0, MOST_THINGS * MOST_HIGH) || !within(what, 0, 2)) {
            return BAD;
        }
        return seer.setsSoHigh(now, v, what);
    }

    public int share(int thing, int n) {
        if (!isThing(thing) || !within(n, 0, 999)) {
            return BAD;
        }
        return seer.partOf(now, thing, n);
    }

    public int byTurns(int n, int m) {
        if (!isStreet()) {
            return STATE;
        }
        if (!within(n, 0, Turns.MOST_TURNS) || !within(m, 1, Turns.MOST_AFTER)) {
            return BAD;
        }
        return turns.play(now, n, m);
    }

    public int who(int thing, int which, int row, int i, int n) {
        if (!isThing(thing) || !within(which, 0, 2) || !rows.isNumber(row)
                || !within(n, 1, MOST_TOLD)) {
            return BAD;
        }
        if (!now.stands(thing)) {
            return STATE;
        }
        int finding = rows.findingAt(row, i, n);
        if (finding != NO_FINDING) {
            return found(finding);
        }
        seer.hear(rows, row, i, n);
        switch (which) {
            case 0:
                return unfound(seer.kindsThatFit(now, thing));
            case 1:
                return unfound(seer.highsThatFit(now, thing));
            default:
                return unfound(seer.roomsThatFit(now, thing));
        }
    }

    public int feeds(int room, int which, int row, int i, int n) {
        if (!isRoom(room) || !within(which, 0, 2) || !rows.isNumber(row)
                || !within(n, 1, MOST_TOLD)) {
            return BAD;
        }
        int finding = rows.findingAt(row, i, n);
        if (finding != NO_FINDING) {
            return found(finding);
        }
        seer.hear(rows, row, i, n);
        if (which == 0) {
            return unfound(seer.floorsThatFit(now, room));
        }
        int fits = seer.feedsThatFit(now, room);
        if (which == 1) {
            return unfound(Integer.bitCount(fits));
        }
        return unfound(fits == 0 ? NONE : Integer.numberOfTrailingZeros(fits));
    }

    public long gives(int thing, int n, int p, int what) {
        if (!isThing(thing) || !within(n, 0, MOST_TRIED) || !within(p, 0, 10)
                || !within(what, 0, 1)) {
            return BAD;
        }
        return seer.likelySpared(now, thing, n, p, what);
    }

    public int drawn(int n, int seed, int what) {
        if (!isStreet()) {
            return STATE;
        }
        if (!within(n, 0, MOST_FORETOLD) || !within(seed, 1, 999999) || !within(what, 0, 1)) {
            return BAD;
        }
        return seer.becameInYears(now, n, seed, what);
    }

    public int image(int k) {
        if (!within(k, 0, IMAGES - 1)) {
            return BAD;
        }
        if (!isStreet()) {
            return STATE;
        }
        images[k].become(now);
        return 1;
    }

    public int restore(int k) {
        if (!within(k, 0, IMAGES - 1)) {
            return BAD;
        }
        if (images[k].rooms == 0) {
            return STATE;
        }
        now.become(images[k]);
        past.forget();
        return 1;
    }

    // ---- asked

    public int kind(int one) {
        return isThing(one) ? now.sort[one] : BAD;
    }

    public int as(int one, int kind) {
        if (!isThing(one) || !within(kind, 0, KINDS - 1)) {
            return BAD;
        }
        return isOfKind(now.sort[one], kind) ? unfound(one) : found(NOT_THAT_KIND);
    }

    public int ask(int one, int what) {
        if (!isThing(one) || !within(what, 0, 1)) {
            return BAD;
        }
        return asker.answer(now, one, what);
    }

    public int trace(int i) {
        return i >= 0 && i < asker.traced ? asker.begun[i] : NONE;
    }

    public int count(int what) {
        switch (what) {
            case 0:
                return rows.present();
            case 1:
                return now.things;
            case 2:
                return now.rooms;
            case 3:
                return now.day;
            case 4:
                return now.allLava();
            case 5:
                return Integer.bitCount(now.stones());
            case 6:
                return Integer.bitCount(now.allAt(OUT));
            case 7:
                return past.acts;
            case 8:
                return tape.bytes;
            default:
                return BAD;
        }
    }

    public int status() {
        return latestFinding;
    }

    // ---- what the calls share

    private boolean isStreet() {
        return now.rooms > 0;
    }

    private boolean isThing(int number) {
        return number >= 0 && number < now.things;
    }

    private boolean isRoom(int number) {
        return number >= 0 && number < now.rooms;
    }

    private int found(int finding) {
        latestFinding = finding;
        return FINDINGS - finding;
    }

    private int unfound(int answer) {
        latestFinding = NO_FINDING;
        return answer;
    }

    private static boolean within(int v, int least, int most) {
        return v >= least && v <= most;
    }

    private static boolean isOfKind(int sort, int kind) {
        int is = sort;
        for (int step = 0; step < KINDS && is >= 0; step++) {
            if (is == kind) {
                return true;
            }
            is = KIND_ABOVE[is];
        }
        return false;
    }

    /** The ROWS: ints hold the ITEMS of every LANE, cut to the LANE as they are put. */
    private static final class Rows {
        static final int LANES = 3;
        static final int MOST_ITEMS = 40;
        private static final int ROWS = 8;
        private static final int MISSING = -1;

        private final int[][] items = new int[ROWS][MOST_ITEMS];
        private final int[] lanes = new int[ROWS];
        private final int[] sizes = new int[ROWS];

        Rows() {
            for (int row = 0; row < ROWS; row++) {
                lanes[row] = MISSING;
            }
        }

        boolean isNumber(int row) {
            return row >= 0 && row < ROWS;
        }

        boolean isMissing(int row) {
            return lanes[row] == MISSING;
        }

        int present() {
            int all = 0;
            for (int row = 0; row < ROWS; row++) {
                if (!isMissing(row)) {
                    all++;
                }
            }
            return all;
        }

        void make(int row, int lane, int n) {
            lanes[row] = lane;
            sizes[row] = n;
            for (int i = 0; i < MOST_ITEMS; i++) {
                items[row][i] = 0;
            }
        }

        int lose(int row) {
            lanes[row] = MISSING;
            return sizes[row];
        }

        int put(int row, int i, int v) {
            items[row][i] = cut(lanes[row], v);
            return items[row][i];
        }

        int item(int row, int i) {
            return items[row][i];
        }

        void move(int a, int i, int b, int j, int n) {
            System.arraycopy(items[a], i, items[b], j, n);
        }

        int findingAt(int row, int i, int n) {
            if (isMissing(row)) {
                return MISSING_ROW;
            }
            return hasPlaces(row, i, n) ? NO_FINDING : NO_PLACE;
        }

        int findingBetween(int a, int i, int b, int j, int n) {
            if (isMissing(a) || isMissing(b)) {
                return MISSING_ROW;
            }
            if (lanes[a] != lanes[b]) {
                return TWO_LANES;
            }
            return hasPlaces(a, i, n) && hasPlaces(b, j, n) ? NO_FINDING : NO_PLACE;
        }

        // Told by what is left behind i, since i and n together may be more than an int holds.
        private boolean hasPlaces(int row, int i, int n) {
            return i >= 0 && i <= sizes[row] && n >= 0 && n <= sizes[row] - i;
        }

        private static int cut(int lane, int v) {
            if (lane == 0) {
                return (byte) v;
            }
            return lane == 1 ? (short) v : v;
        }
    }

    /** The tape, and how a STREET is read from it; what it reads is a draft till all of it fits. */
    private static final class Tape {
        private static final int MOST_BYTES = 90;
        private static final int CANNOT_STAND = 1;
        private static final int NUMBER_AMISS = 2;
        private static final int ONE_TOO_MANY = 3;
        private static final int NO_NUMBER = -1;

        final Village draft = new Village();
        int bytes = 0;
        int faultNumber = 0;
        int faultPlace = 0;
        private final int[] letters = new int[MOST_BYTES];
        private int at = 0;

        boolean takeByte(int letter) {
            if (bytes >= MOST_BYTES) {
                return false;
            }
            letters[bytes] = letter;
            bytes++;
            return true;
        }

        boolean read() {
            at = 0;
            draft.clear();
            boolean fits = readLaw() && readRooms() && readThings();
            bytes = 0;
            return fits;
        }

        private boolean readLaw() {
            if (!readSign('v')) {
                return false;
            }
            draft.feed = readNumber(0, MOST_FEED);
            if (draft.feed == NO_NUMBER || !readSign(',')) {
                return false;
            }
            draft.stop = readNumber(0, MOST_STOP);
            return draft.stop != NO_NUMBER && readSign(';');
        }

        private boolean readRooms() {
            for (int r = 0; r < MOST_ROOMS && next() == 'r'; r++) {
                if (!readRoom()) {
                    return false;
                }
            }
            if (draft.rooms < LEAST_ROOMS) {
                return fails(CANNOT_STAND);
            }
            return next() != 'r' || fails(ONE_TOO_MANY);
        }

        private boolean readRoom() {
            if (!readSign('r')) {
                return false;
            }
            int floor = readNumber(0, MOST_FLOOR);
            if (floor == NO_NUMBER || !readSign(';')) {
                return false;
            }
            draft.addRoom(floor);
            return true;
        }

        private boolean readThings() {
            for (int t = 0; t < MOST_THINGS && (t == 0 || at < bytes); t++) {
                if (!readThing()) {
                    return false;
                }
            }
            if (at == bytes) {
                return true;
            }
            return fails(sortOf(next()) == 0 ? CANNOT_STAND : ONE_TOO_MANY);
        }

        private boolean readThing() {
            int sort = sortOf(next());
            if (sort == 0) {
                return fails(CANNOT_STAND);
            }
            at++;
            int room = readNumber(0, draft.rooms - 1);
            if (room == NO_NUMBER || !readSign(',')) {
                return false;
            }
            int high = readNumber(1, MOST_HIGH);
            if (high == NO_NUMBER || !readSign(';')) {
                return false;
            }
            draft.addThing(sort, room, high);
            return true;
        }

        private boolean readSign(int sign) {
            if (next() != sign) {
                return fails(CANNOT_STAND);
            }
            at++;
            return true;
        }

        // The run of figures is measured whole first: one of three or more is no TOKEN at all.
        private int readNumber(int least, int most) {
            int value = 0;
            int figures = 0;
            for (int i = at; i < bytes && letters[i] >= '0' && letters[i] <= '9'; i++) {
                value = figures < 2 ? value * 10 + letters[i] - '0' : value;
                figures++;
            }
            if (figures < 1 || figures > 2) {
                fails(CANNOT_STAND);
                return NO_NUMBER;
            }
            if (value < least || value > most) {
                fails(NUMBER_AMISS);
                return NO_NUMBER;
            }
            at += figures;
            return value;
        }

        private int next() {
            return at < bytes ? letters[at] : -1;
        }

        private boolean fails(int fault) {
            faultNumber = fault;
            faultPlace = at;
            return false;
        }

        private static int sortOf(int letter) {
            switch (letter) {
                case 'c':
                    return CHAIR;
                case 'l':
                    return CLOCK;
                case 't':
                    return TABLE;
                case 'p':
                    return PERSON;
                case 'a':
                    return AUNT;
                default:
                    return 0;
            }
        }
    }

    /** A STREET as it stands on a DAY; without ROOMS it is none. */
    private static final class Village {
        int rooms = 0;
        int things = 0;
        int feed = 0;
        int stop = 0;
        int day = 0;
        final int[] floor = new int[MOST_ROOMS];
        final int[] lava = new int[MOST_ROOMS];
        final int[] wall = new int[MOST_ROOMS];
        final int[] sort = new int[MOST_THINGS];
        final int[] high = new int[MOST_THINGS];
        final int[] where = new int[MOST_THINGS];
        // The ROOM in which a THING stood last: one that is OUT is asked for it yet.
        final int[] last = new int[MOST_THINGS];

        void become(Village other) {
            rooms = other.rooms;
            things = other.things;
            feed = other.feed;
            stop = other.stop;
            day = other.day;
            System.arraycopy(other.floor, 0, floor, 0, MOST_ROOMS);
            System.arraycopy(other.lava, 0, lava, 0, MOST_ROOMS);
            System.arraycopy(other.wall, 0, wall, 0, MOST_ROOMS);
            System.arraycopy(other.sort, 0, sort, 0, MOST_THINGS);
            System.arraycopy(other.high, 0, high, 0, MOST_THINGS);
            System.arraycopy(other.where, 0, where, 0, MOST_THINGS);
            System.arraycopy(other.last, 0, last, 0, MOST_THINGS);
        }

        void clear() {
            rooms = 0;
            things = 0;
            feed = 0;
            stop = 0;
            day = 0;
        }

        void addRoom(int floorOfIt) {
            if (rooms < MOST_ROOMS) {
                floor[rooms] = floorOfIt;
                lava[rooms] = 0;
                wall[rooms] = 0;
                rooms++;
            }
        }

        void addThing(int sortOfIt, int room, int highOfIt) {
            if (things < MOST_THINGS) {
                sort[things] = sortOfIt;
                high[things] = highOfIt;
                place(things, room);
                things++;
            }
        }

        void place(int thing, int place) {
            where[thing] = place;
            if (place != OUT) {
                last[thing] = place < OUT ? place : place - STONE;
            }
        }

        boolean stands(int thing) {
            return where[thing] < OUT;
        }

        int carried(int place) {
            return place < OUT ? goneOn(place, 1) : place;
        }

        private int goneOn(int room, int by) {
            return room + by < rooms ? room + by : OUT;
        }

        int standing() {
            int bits = 0;
            for (int t = 0; t < things; t++) {
                if (where[t] < OUT) {
                    bits |= 1 << t;
                }
            }
            return bits;
        }

        int stones() {
            int bits = 0;
            for (int t = 0; t < things; t++) {
                if (where[t] >= STONE) {
                    bits |= 1 << t;
                }
            }
            return bits;
        }

        int allAt(int place) {
            int bits = 0;
            for (int t = 0; t < things; t++) {
                if (where[t] == place) {
                    bits |= 1 << t;
                }
            }
            return bits;
        }

        int allLava() {
            int all = 0;
            for (int r = 0; r < rooms; r++) {
                all += lava[r];
            }
            return all;
        }

        void pass() {
            flow(lava, 0, day);
            for (int t = 0; t < things; t++) {
                place(t, placeAfter(where[t], sort[t], high[t], lava, 0, day));
            }
            day++;
        }

        // The lava comes as a part of any row, so that a forecast can keep one part for each DAY.
        void flow(int[] lies, int from, int onDay) {
            if (onDay < stop) {
                lies[from] += feed;
            }
            for (int r = 0; r < rooms; r++) {
                boolean isLast = r + 1 == rooms;
                int nextLevel = isLast ? 0 : floor[r + 1] + lies[from + r + 1];
                int over = floor[r] + lies[from + r] - wall[r] - nextLevel;
                if (over >= 2) {
                    int goes = Math.min(over / 2, lies[from + r]);
                    lies[from + r] -= goes;
                    if (!isLast) {
                        lies[from + r + 1] += goes;
                    }
                }
            }
        }

        // No THING changes the lava or another THING, so each is followed by itself.
        int placeAfter(int place, int sortOfIt, int highOfIt, int[] lies, int from, int onDay) {
            if (place >= OUT) {
                return place;
            }
            int goneTo = goneOn(place, pace(sortOfIt, place, lies, from, onDay));
            if (goneTo == OUT || lies[from + goneTo] < highOfIt) {
                return goneTo;
            }
            return STONE + goneTo;
        }

        private static int pace(int sortOfIt, int room, int[] lies, int from, int onDay) {
            boolean inOwn = lies[from + room] > 0;
            boolean inOneAhead = room >= 1 && lies[from + room - 1] > 0;
            boolean inTwoAhead = room >= 2 && lies[from + room - 2] > 0;
            boolean goes;
            switch (sortOfIt) {
                case CLOCK:
                    return inOwn ? 2 : 0;
                case TABLE:
                    goes = onDay % 2 == 0 && (inOwn || inOneAhead);
                    break;
                case PERSON:
                    goes = inOwn || inOneAhead || inTwoAhead;
                    break;
                case AUNT:
                    if (inOwn) {
                        return 2;
                    }
                    goes = inOneAhead || inTwoAhead;
                    break;
                default:
                    goes = inOwn || inOneAhead;
                    break;
            }
            return goes ? 1 : 0;
        }
    }

    /** What can be undone: the STREET ahead of each of the latest ACTS, in a ring. */
    private static final class Past {
        int acts = 0;
        private int oldest = 0;
        private final Village[] ring = new Village[MOST_ACTS];

        Past() {
            for (int k = 0; k < MOST_ACTS; k++) {
                ring[k] = new Village();
            }
        }

        void keep(Village village) {
            ring[(oldest + acts) % MOST_ACTS].become(village);
            if (acts < MOST_ACTS) {
                acts++;
            } else {
                oldest = (oldest + 1) % MOST_ACTS;
            }
        }

        boolean goBack(Village village) {
            if (acts == 0) {
                return false;
            }
            acts--;
            village.become(ring[(oldest + acts) % MOST_ACTS]);
            return true;
        }

        void forget() {
            acts = 0;
            oldest = 0;
        }
    }

    /** How much lies where behind each of some DAYS, and where a THING comes to over them. */
    private static final class Forecast {
        private final int mostDays;
        private final int[] lies;

        Forecast(int days) {
            mostDays = Math.max(0, days);
            lies = new int[(mostDays + 1) * MOST_ROOMS];
        }

        void tell(Village village, int n) {
            System.arraycopy(village.lava, 0, lies, 0, MOST_ROOMS);
            for (int d = 0; d < n && d < mostDays; d++) {
                int from = d * MOST_ROOMS;
                System.arraycopy(lies, from, lies, from + MOST_ROOMS, MOST_ROOMS);
                village.flow(lies, from + MOST_ROOMS, village.day + d);
            }
        }

        int lavaIn(int room, int behind) {
            return lies[behind * MOST_ROOMS + room];
        }

        // d is how many of the DAYS that were told have gone when this one begins.
        int placeAfter(Village village, int thing, int place, int d) {
            return village.placeAfter(place, village.sort[thing], village.high[thing], lies,
                    (d + 1) * MOST_ROOMS, village.day + d);
        }

        int placeBehind(Village village, int thing, int place, int n) {
            int comesTo = place;
            for (int d = 0; d < n && comesTo < OUT; d++) {
                comesTo = placeAfter(village, thing, comesTo, d);
            }
            return comesTo;
        }
    }

    /** What is foretold by trying it on another STREET like the one that stands. */
    private static final class Seer {
        private static final int TOUCHED = 0;
        private static final int TURNED_STONE = 1;

        private final Village trial = new Village();
        private final Forecast forecast = new Forecast(MOST_FORETOLD);
        private final int[] heard = new int[MOST_TOLD];
        private int heardDays = 0;

        int placeBehind(Village now, int thing, int n) {
            forecast.tell(now, n);
            return forecast.placeBehind(now, thing, now.where[thing], n);
        }

        int lavaBehind(Village now, int room, int n) {
            forecast.tell(now, n);
            return forecast.lavaIn(room, n);
        }

        int stonesBehind(Village now, int n) {
            trial.become(now);
            passTrial(n);
            return trial.stones();
        }

        int outsBehind(Village now, int n) {
            trial.become(now);
            passTrial(n);
            return trial.allAt(OUT);
        }

        private void passTrial(int n) {
            for (int d = 0; d < n; d++) {
                trial.pass();
            }
        }

        int frontBehind(Village now, int n) {
            forecast.tell(now, n);
            for (int r = now.rooms - 1; r >= 0; r--) {
                if (forecast.lavaIn(r, n) > 0) {
                    return r;
                }
            }
            return NONE;
        }

        int firstDay(Village now, int thing, int how) {
            forecast.tell(now, MOST_FORETOLD);
            int place = now.where[thing];
            for (int d = 0; d < MOST_FORETOLD; d++) {
                if (isCome(place, how, d)) {
                    return d;
                }
                place = forecast.placeAfter(now, thing, place, d);
            }
            return isCome(place, how, MOST_FORETOLD) ? MOST_FORETOLD : NONE;
        }

        private boolean isCome(int place, int how, int behind) {
            switch (how) {
                case TOUCHED:
                    return place >= STONE || (place < OUT && forecast.lavaIn(place, behind) > 0);
                case TURNED_STONE:
                    return place >= STONE;
                default:
                    return place == OUT;
            }
        }

        int stonesWithDam(Village now, int wall, int v, int n) {
            trial.become(now);
            trial.wall[wall] = v;
            passTrial(n);
            return Integer.bitCount(trial.stones());
        }

        int bestDam(Village now, int v, int n) {
            int best = 0;
            int fewest = MOST_THINGS + 1;
            for (int wall = 0; wall < now.rooms; wall++) {
                int stones = stonesWithDam(now, wall, v, n);
                if (stones < fewest) {
                    fewest = stones;
                    best = wall;
                }
            }
            return best;
        }

        int leastWall(Village now, int room, int wall, int n) {
            trial.become(now);
            for (int v = 0; v <= MOST_WALL; v++) {
                trial.wall[wall] = v;
                forecast.tell(trial, n);
                if (forecast.lavaIn(room, n) == 0) {
                    return v;
                }
            }
            return NONE;
        }

        int mostFeed(Village now, int n) {
            for (int v = MOST_FEED; v >= 0; v--) {
                trial.become(now);
                trial.feed = v;
                passTrial(n);
                if (trial.stones() == now.stones()) {
                    return v;
                }
            }
            return NONE;
        }

        int setsSoHigh(Village now, int v, int what) {
            int standing = now.standing();
            int sets = 0;
            int inAll = standing;
            int inAny = 0;
            for (int set = 0; set < 1 << now.things; set++) {
                if ((set & ~standing) == 0 && highOfAll(now, set) == v) {
                    sets++;
                    inAll &= set;
                    inAny |= set;
                }
            }
            if (what == 0) {
                return sets;
            }
            if (what == 1) {
                return sets == 0 ? 0 : inAll;
            }
            return inAny;
        }

        private static int highOfAll(Village now, int set) {
            int all = 0;
            for (int t = 0; t < now.things; t++) {
                if ((set >> t & 1) == 1) {
                    all += now.high[t];
                }
            }
            return all;
        }

        int partOf(Village now, int thing, int n) {
            int outs = now.allAt(OUT);
            int all = highOfAll(now, outs);
            if ((outs >> thing & 1) == 0 || all <= 0) {
                return 0;
            }
            int over = n;
            int before = 0;
            for (int t = 0; t < now.things; t++) {
                if ((outs >> t & 1) == 1) {
                    over -= n * now.high[t] / all;
                    before += t < thing ? 1 : 0;
                }
            }
            return n * now.high[thing] / all + (before < over ? 1 : 0);
        }

        void hear(Rows rows, int row, int i, int n) {
            heardDays = Math.min(n, MOST_TOLD);
            for (int d = 0; d < heardDays; d++) {
                heard[d] = rows.item(row, i + d);
            }
        }

        int kindsThatFit(Village now, int thing) {
            trial.become(now);
            forecast.tell(trial, heardDays);
            int bits = 0;
            for (int kind = CHAIR; kind <= AUNT; kind++) {
                trial.sort[thing] = kind;
                bits |= goesAsHeard(thing, now.where[thing]) ? 1 << kind : 0;
            }
            return bits;
        }

        int highsThatFit(Village now, int thing) {
            trial.become(now);
            forecast.tell(trial, heardDays);
            int bits = 0;
            for (int high = 1; high <= MOST_HIGH; high++) {
                trial.high[thing] = high;
                bits |= goesAsHeard(thing, now.where[thing]) ? 1 << high : 0;
            }
            return bits;
        }

        int roomsThatFit(Village now, int thing) {
            trial.become(now);
            forecast.tell(trial, heardDays);
            int bits = 0;
            for (int room = 0; room < now.rooms; room++) {
                bits |= goesAsHeard(thing, room) ? 1 << room : 0;
            }
            return bits;
        }

        private boolean goesAsHeard(int thing, int from) {
            int place = from;
            for (int d = 0; d < heardDays; d++) {
                place = forecast.placeAfter(trial, thing, place, d);
                if (place != heard[d]) {
                    return false;
                }
            }
            return true;
        }

        int floorsThatFit(Village now, int room) {
            trial.become(now);
            int bits = 0;
            for (int floor = 0; floor <= MOST_FLOOR; floor++) {
                trial.floor[room] = floor;
                bits |= liesAsHeard(room) ? 1 << floor : 0;
            }
            return bits;
        }

        int feedsThatFit(Village now, int room) {
            trial.become(now);
            int bits = 0;
            for (int feed = 0; feed <= MOST_FEED; feed++) {
                trial.feed = feed;
                bits |= liesAsHeard(room) ? 1 << feed : 0;
            }
            return bits;
        }

        private boolean liesAsHeard(int room) {
            forecast.tell(trial, heardDays);
            for (int d = 0; d < heardDays; d++) {
                if (forecast.lavaIn(room, d + 1) != heard[d]) {
                    return false;
                }
            }
            return true;
        }

        // Cases are counted in whole parts of 10 for each WALL, at most 10 to the 10th in all.
        long likelySpared(Village now, int thing, int n, int p, int what) {
            int walls = wallsThatStand(now);
            long all = 1;
            for (int w = 0; w < Integer.bitCount(walls); w++) {
                all *= 10;
            }
            long spared = 0;
            for (int gone = 0; gone < 1 << now.rooms; gone++) {
                long cases = (gone & ~walls) == 0 ? casesOf(walls, gone, p) : 0;
                if (cases > 0 && isSpared(now, thing, n, gone)) {
                    spared += cases;
                }
            }
            long shared = greatestDivisor(all, spared);
            if (shared <= 0) {
                return 0;
            }
            return (what == 0 ? spared : all) / shared;
        }

        private static int wallsThatStand(Village now) {
            int bits = 0;
            for (int w = 0; w < now.rooms; w++) {
                bits |= now.wall[w] != 0 ? 1 << w : 0;
            }
            return bits;
        }

        private static long casesOf(int walls, int gone, int p) {
            long cases = 1;
            for (int w = 0; w < MOST_ROOMS; w++) {
                if ((walls >> w & 1) == 1) {
                    cases *= (gone >> w & 1) == 1 ? p : 10 - p;
                }
            }
            return cases;
        }

        private boolean isSpared(Village now, int thing, int n, int gone) {
            trial.become(now);
            for (int w = 0; w < now.rooms; w++) {
                if ((gone >> w & 1) == 1) {
                    trial.wall[w] = 0;
                }
            }
            int place = now.where[thing];
            for (int d = 0; d < n && place < OUT; d++) {
                trial.flow(trial.lava, 0, now.day + d);
                place = trial.placeAfter(place, now.sort[thing], now.high[thing], trial.lava, 0,
                        now.day + d);
            }
            return place < STONE;
        }

        private static long greatestDivisor(long a, long b) {
            long greater = a;
            long lesser = b;
            for (int step = 0; step < 100 && lesser != 0; step++) {
                long rest = greater % lesser;
                greater = lesser;
                lesser = rest;
            }
            return greater;
        }

        int becameInYears(Village now, int n, int seed, int what) {
            if (now.things <= 0 || now.rooms <= 0) {
                return 0;
            }
            trial.become(now);
            long x = seed;
            int became = 0;
            for (int d = 0; d < n; d++) {
                x = x * 16807 % 2147483647L;
                draw(x);
                int stood = trial.standing();
                trial.pass();
                became += Integer.bitCount(stood & (what == 0 ? trial.stones() : trial.allAt(OUT)));
            }
            return became;
        }

        private void draw(long x) {
            if (x % 3 == 0) {
                trial.feed = (int) (x % 10);
            }
            int thing = (int) (x % trial.things);
            if (!trial.stands(thing)) {
                trial.place(thing, (int) (x % trial.rooms));
            }
        }
    }

    /**
     * What to carry day by day. No THING minds another, so it is enough to know of each which
     * sets of DAYS on which it is carried leave it STONE; a row of choices then adds these up.
     */
    private static final class Carrier {
        static final int MOST_CARRIES = 4;
        static final int MOST_AFTER = 20;
        private static final int DAY_SETS = 1 << MOST_CARRIES;

        int fewest = 0;
        private final Forecast forecast = new Forecast(MOST_CARRIES + MOST_AFTER);
        private final boolean[] stone = new boolean[MOST_THINGS * DAY_SETS];
        private final int[] choice = new int[MOST_CARRIES];
        private final int[] best = new int[MOST_CARRIES];
        private final int[] daysOf = new int[MOST_THINGS];
        private int things = 0;
        private int carries = 0;

        void search(Village now, int n, int m) {
            things = now.things;
            carries = Math.min(n, MOST_CARRIES);
            forecast.tell(now, carries + m);
            followAll(now, carries + m);
            fewest = MOST_THINGS + 1;
            tryFrom(0);
        }

        int choiceAt(int k) {
            return k >= 0 && k < carries && best[k] < things ? best[k] : NONE;
        }

        private void followAll(Village now, int n) {
            for (int t = 0; t < things; t++) {
                for (int set = 0; set < 1 << carries; set++) {
                    stone[t * DAY_SETS + set] = placeBehind(now, t, set, n) >= STONE;
                }
            }
        }

        private int placeBehind(Village now, int thing, int set, int n) {
            int place = now.where[thing];
            for (int d = 0; d < n; d++) {
                if (d < carries && (set >> d & 1) == 1) {
                    place = now.carried(place);
                }
                place = forecast.placeAfter(now, thing, place, d);
            }
            return place;
        }

        // The lesser THINGS come first and none last, so the first of several rows is kept.
        private void tryFrom(int k) {
            if (k >= carries) {
                weigh();
                return;
            }
            for (int t = 0; t < things; t++) {
                choice[k] = t;
                daysOf[t] |= 1 << k;
                tryFrom(k + 1);
                daysOf[t] &= ~(1 << k);
            }
            choice[k] = things;
            tryFrom(k + 1);
        }

        private void weigh() {
            int stones = 0;
            for (int t = 0; t < things; t++) {
                stones += stone[t * DAY_SETS + daysOf[t]] ? 1 : 0;
            }
            if (stones < fewest) {
                fewest = stones;
                System.arraycopy(choice, 0, best, 0, carries);
            }
        }
    }

    /**
     * The aunt and the dresser by turns. What comes of it hangs on no more than how often FEED
     * was made more and how often each THING was carried, so that is followed once, ahead.
     */
    private static final class Turns {
        static final int MOST_TURNS = 4;
        static final int MOST_AFTER = 20;
        private static final int RAISE = 3;
        private static final int OFTEN = MOST_TURNS / 2 + 1;

        private final Village trial = new Village();
        private final Forecast forecast = new Forecast(MOST_AFTER);
        private final boolean[] stone = new boolean[OFTEN * OFTEN * MOST_THINGS];
        private final int[] carriedOf = new int[MOST_THINGS];
        private int raised = 0;
        private int things = 0;

        int play(Village now, int n, int m) {
            things = now.things;
            for (int more = 0; more < OFTEN; more++) {
                trial.become(now);
                trial.feed = Math.min(MOST_FEED, now.feed + RAISE * more);
                forecast.tell(trial, m);
                followAll(more, m);
            }
            return outcome(0, Math.min(n, MOST_TURNS));
        }

        private void followAll(int more, int m) {
            for (int t = 0; t < things; t++) {
                int place = trial.where[t];
                for (int often = 0; often < OFTEN; often++) {
                    stone[cell(more, often, t)] =
                            forecast.placeBehind(trial, t, place, m) >= STONE;
                    place = trial.carried(place);
                }
            }
        }

        private static int cell(int more, int often, int thing) {
            return (more * OFTEN + often) * MOST_THINGS + thing;
        }

        private int outcome(int turn, int n) {
            if (turn >= n) {
                return stonesNow();
            }
            return turn % 2 == 0 ? auntTurn(turn, n) : dresserTurn(turn, n);
        }

        // To carry one that does not stand is to do nothing, which she may do anyway.
        private int auntTurn(int turn, int n) {
            int least = outcome(turn + 1, n);
            for (int t = 0; t < things; t++) {
                carriedOf[t]++;
                least = Math.min(least, outcome(turn + 1, n));
                carriedOf[t]--;
            }
            return least;
        }

        private int dresserTurn(int turn, int n) {
            int without = outcome(turn + 1, n);
            raised++;
            int with = outcome(turn + 1, n);
            raised--;
            return Math.max(without, with);
        }

        private int stonesNow() {
            int stones = 0;
            for (int t = 0; t < things; t++) {
                stones += stone[cell(raised, carriedOf[t], t)] ? 1 : 0;
            }
            return stones;
        }
    }

    /** The ASKS by their BODIES, and THE TRACE that these leave. */
    private static final class Asker {
        private static final int MOST_TRACED = 16;
        private static final int MOST_DEEP = 16;
        private static final int SIZE = 0;
        private static final int MARK = 1;
        // By KIND, the lent one first; 0: none is told for that KIND.
        private static final int[] SIZE_BODIES = {10, 11, 12, 0, 13, 14};
        private static final int[] MARK_BODIES = {20, 21, 24, 22, 23, 0};

        int traced = 0;
        final int[] begun = new int[MOST_TRACED];

        int answer(Village now, int one, int what) {
            traced = 0;
            return give(now, one, bodyFor(now.sort[one], what), 0);
        }

        private static int bodyFor(int sort, int what) {
            int is = sort;
            int body = 0;
            for (int step = 0; step < KINDS && is >= 0 && body == 0; step++) {
                body = what == SIZE ? SIZE_BODIES[is] : MARK_BODIES[is];
                is = KIND_ABOVE[is];
            }
            return body;
        }

        private void begin(int body) {
            if (traced < MOST_TRACED) {
                begun[traced] = body;
                traced++;
            }
        }

        private int give(Village now, int one, int body, int deep) {
            if (deep > MOST_DEEP) {
                return 0;
            }
            begin(body);
            switch (body) {
                case 10:
                    return now.high[one];
                case 11:
                    return give(now, one, 10, deep + 1) + anew(now, one, MARK, deep);
                case 12:
                    return 0 - give(now, one, 11, deep + 1);
                case 13:
                    return give(now, one, 10, deep + 1) - 100;
                case 14:
                    return 2 * give(now, one, 13, deep + 1);
                case 20:
                    return one;
                case 21:
                    return give(now, one, 20, deep + 1) + now.last[one];
                case 22:
                    return give(now, one, 21, deep + 1) - 1000;
                case 23:
                    return give(now, one, 20, deep + 1) - anew(now, one, SIZE, deep);
                case 24:
                    return 2 * give(now, one, 21, deep + 1);
                default:
                    return 0;
            }
        }

        private int anew(Village now, int one, int what, int deep) {
            return give(now, one, bodyFor(now.sort[one], what), deep + 1);
        }
    }
}
