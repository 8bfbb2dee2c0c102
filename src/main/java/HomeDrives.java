import java.util.Arrays;

/** Who drives whom home after an evening. What each call promises stands in ../shared/DOC.md. */
public final class HomeDrives {
    public static final int NONE = -1000000, BAD = -1000001, STATE = -1000002, FULL = -1000003;

    private static final int FINDINGS = -1000010, FAULTS = -1000100;
    private static final int NULL_FOUND = 1, PLACE_FOUND = 2, KIND_FOUND = 3, SIZE_FOUND = 4, STORE_FOUND = 5;

    private static final int MOST_ROWS = 8, MOST_ITEMS = 40, BYTES = 0, SHORTS = 1, INTS = 2, MISSING = -1;
    private static final int MOST_BYTES = 500, MOST_WORD = 8;
    private static final int SITES = 8, MOST_WAYS = 16, MOST_HILLS = 7, MOST_PEOPLE = 7, MOST_CARS = 3;
    private static final int MOST_SEATS = 4, MOST_QUARRELS = 6, MOST_IMAGES = 2;
    private static final int MOST_MINUTE = 600, HOUR = 60, MOST_MORE = 9;
    private static final int MOST_DRINK = 9, MOST_GLASSES = 99, MOST_UNDONE = 24, MOST_TRACE = 16;

    // Far above any sum of ways, and small enough that two of them can be added.
    private static final int UNJOINED = 1000000;

    private static final int PERSON = 0, PLAIN = 1, DRIVER = 2, STRANGER = 3, SICK = 4, CHILD = 5;
    private static final int[] KIND_ABOVE = {-1, PERSON, PLAIN, PLAIN, PERSON, SICK};

    private static final int ASK_SIZE = 0, ASK_MARK = 1, DEEPEST_ASK = 16;
    // By kind; 0 where none is told for the kind, so that the nearest kind above it is looked at.
    private static final int[] SIZE_BODIES = {10, 11, 0, 12, 13, 14};
    private static final int[] MARK_BODIES = {20, 21, 22, 24, 23, 0};

    private final Rows rows = new Rows();
    private final Reader reader = new Reader();
    private final Evening[] images = {new Evening(), new Evening()};
    private final Drinks drinks = new Drinks();
    private final Planner planner = new Planner();
    private final Book book = new Book();
    private final Asks asks = new Asks();
    private Evening now = new Evening();
    private Evening draft = new Evening();
    private int finding = 0;

    public HomeDrives() {
    }

    // ---- rows

    /** A new row of a lane with n items, each 0. */
    public int row(int row, int lane, int n) {
        if (!isRow(row) || lane < BYTES || lane > INTS || n > MOST_ITEMS) {
            return BAD;
        }
        if (n < 0) {
            return found(SIZE_FOUND);
        }
        rows.make(row, lane, n);
        return fine(n);
    }

    /** Puts the lowest bits of v at place i of a row. */
    public int set(int row, int i, int v) {
        if (!isRow(row)) {
            return BAD;
        }
        if (rows.isMissing(row)) {
            return found(NULL_FOUND);
        }
        if (!rows.hasStretch(row, i, 1)) {
            return found(PLACE_FOUND);
        }
        return fine(rows.put(row, i, v));
    }

    /** Copies n items of row a from i on to row b from j on. */
    public int copy(int a, int i, int b, int j, int n) {
        if (!isRow(a) || !isRow(b)) {
            return BAD;
        }
        if (rows.isMissing(a) || rows.isMissing(b)) {
            return found(NULL_FOUND);
        }
        if (!rows.areOfOneLane(a, b)) {
            return found(STORE_FOUND);
        }
        if (!rows.hasStretch(a, i, n) || !rows.hasStretch(b, j, n)) {
            return found(PLACE_FOUND);
        }
        rows.move(a, i, b, j, n);
        return fine(n);
    }

    /** Takes a row away: how many items it had. */
    public int drop(int row) {
        if (!isRow(row)) {
            return BAD;
        }
        if (rows.isMissing(row)) {
            return found(NULL_FOUND);
        }
        return fine(rows.takeAway(row));
    }

    // ---- evenings

    /** Puts the lowest n bytes of w behind the tape: how many bytes it has. */
    public int feed(long w, int n) {
        if (n < 1 || n > MOST_WORD) {
            return BAD;
        }
        return reader.append(w, n);
    }

    /** Reads the tape as an evening: how many people there are. */
    public int evening() {
        if (!reader.readInto(draft)) {
            return FAULTS - reader.faultPlace;
        }
        Evening before = now;
        now = draft;
        draft = before;
        beginAnew();
        return now.people;
    }

    /** The number of the latest fault. */
    public int fault() {
        return reader.faultNumber;
    }

    /** Somebody has n glasses more: how many he has had then. */
    public int drink(int person, int n) {
        if (!now.hasPerson(person) || n < 1 || n > MOST_DRINK) {
            return BAD;
        }
        if (now.glasses[person] + n > MOST_GLASSES) {
            return FULL;
        }
        now.glasses[person] += n;
        drinks.keep(person, n);
        return now.glasses[person];
    }

    /** Takes the latest drink back: how many can be taken back yet. */
    public int undo() {
        if (drinks.kept == 0) {
            return STATE;
        }
        drinks.takeBack(now);
        return drinks.kept;
    }

    /** Home, glasses, car or quarrels of somebody. */
    public int person(int person, int what) {
        if (!now.hasPerson(person)) {
            return BAD;
        }
        switch (what) {
            case 0:
                return now.homes[person];
            case 1:
                return now.glasses[person];
            case 2:
                return now.carOf(person);
            case 3:
                return now.quarrels[person];
            default:
                return BAD;
        }
    }

    /** Owner, seats or snow tyres of a car. */
    public int car(int car, int what) {
        if (!now.hasCar(car)) {
            return BAD;
        }
        switch (what) {
            case 0:
                return now.owners[car];
            case 1:
                return now.seats[car];
            case 2:
                return now.snow[car];
            default:
                return BAD;
        }
    }

    /** Fewest minutes from a site to a site. */
    public int far(int a, int b) {
        if (!now.told) {
            return STATE;
        }
        if (a < 0 || a >= SITES || b < 0 || b >= SITES) {
            return BAD;
        }
        return now.areJoined(a, b) ? now.minutesBetween(a, b) : NONE;
    }

    // ---- who may

    /** How drunk somebody is at a minute, or whether he may drive. */
    public int may(int person, int minute, int what) {
        if (!now.hasPerson(person) || !isMinute(minute) || what < 0 || what > 1) {
            return BAD;
        }
        if (what == 0) {
            return now.drunkAfter(now.glasses[person], minute);
        }
        return now.mayDrive(person, now.glasses[person], minute) ? 1 : 0;
    }

    /** The first minute at which somebody may drive. */
    public int soon(int person) {
        if (!now.hasPerson(person)) {
            return BAD;
        }
        // Nothing changes within an hour.
        for (int minute = 0; minute <= MOST_MINUTE; minute += HOUR) {
            if (now.mayDrive(person, now.glasses[person], minute)) {
                return minute;
            }
        }
        return NONE;
    }

    /** Odds that somebody may drive who had up to n glasses more than he says. */
    public int odds(int person, int minute, int n, int what) {
        if (!now.hasPerson(person) || !isMinute(minute) || n < 0 || n > MOST_MORE || what < 0 || what > 1) {
            return BAD;
        }
        int good = 0;
        for (int more = 0; more <= n; more++) {
            if (now.mayDrive(person, now.glasses[person] + more, minute)) {
                good++;
            }
        }
        int common = commonDivisor(good, n + 1);
        return what == 0 ? good / common : (n + 1) / common;
    }

    /** Which cars go at a minute. */
    public int goes(int minute) {
        if (!now.told) {
            return STATE;
        }
        return isMinute(minute) ? now.carsThatGo(minute) : BAD;
    }

    // ---- home

    /** Who gets home how at a minute. */
    public int home(int minute, int what) {
        if (!now.told) {
            return STATE;
        }
        if (!isMinute(minute) || what < 0 || what > 2 && !now.hasCar(what - 3)) {
            return BAD;
        }
        planner.plan(now, now.carsThatGo(minute));
        switch (what) {
            case 0:
                return Integer.bitCount(planner.couch);
            case 1:
                return planner.minutes;
            case 2:
                return planner.couch;
            default:
                return planner.ridersOf(what - 3);
        }
    }

    /** How long a car is under way, or who is set down as the k-th. */
    public int order(int minute, int car, int k) {
        if (!isMinute(minute) || !now.hasCar(car) || k < -1) {
            return BAD;
        }
        int going = now.carsThatGo(minute);
        if (!hasBit(going, car)) {
            return NONE;
        }
        planner.plan(now, going);
        int riders = planner.ridersOf(car);
        return k == -1 ? planner.minutesOf(now, car, riders) : planner.setDownAs(now, car, riders, k);
    }

    /** How many minutes less a rider's car would be under way without him. */
    public int detour(int minute, int person) {
        if (!isMinute(minute) || !now.hasPerson(person)) {
            return BAD;
        }
        planner.plan(now, now.carsThatGo(minute));
        for (int car = 0; car < now.cars; car++) {
            int riders = planner.ridersOf(car);
            if (hasBit(riders, person)) {
                int without = riders & ~(1 << person);
                return planner.minutesOf(now, car, riders) - planner.minutesOf(now, car, without);
            }
        }
        return NONE;
    }

    /** How many trips fetch the cars that were left. */
    public int fetch(int minute) {
        if (!now.told) {
            return STATE;
        }
        return isMinute(minute) ? now.tripsFor(now.carsThatGo(minute)) : BAD;
    }

    /** Whose house would be best next, or how far all are from it. */
    public int house(int what) {
        if (!now.told) {
            return STATE;
        }
        if (what < 0 || what > 1) {
            return BAD;
        }
        int whose = now.bestHouse();
        if (whose == NONE) {
            return NONE;
        }
        return what == 0 ? whose : now.farFromAll(whose);
    }

    /** Whose turn it is by the first n items of a row. */
    public int turn(int row, int n, int what) {
        if (now.people == 0) {
            return STATE;
        }
        if (!isRow(row) || n < 0 || n > MOST_ITEMS || what < 0 || what > 2) {
            return BAD;
        }
        if (rows.isMissing(row)) {
            return found(NULL_FOUND);
        }
        if (!rows.hasStretch(row, 0, n)) {
            return found(PLACE_FOUND);
        }
        if (!book.countDrives(rows, row, n, now.people)) {
            return BAD;
        }
        if (what == 2) {
            return fine(book.missingDrives(now.people));
        }
        int whose = book.firstOfFewest(now.people);
        return fine(what == 0 ? whose : book.times[whose]);
    }

    /** Whose gloves they can be by the first n items of a row. */
    public int gloves(int row, int n, int what) {
        if (now.people == 0) {
            return STATE;
        }
        if (!isRow(row) || n < 1 || n > MOST_ITEMS || what < 0 || what > 1) {
            return BAD;
        }
        if (rows.isMissing(row)) {
            return found(NULL_FOUND);
        }
        if (!rows.hasStretch(row, 0, n)) {
            return found(PLACE_FOUND);
        }
        if (!book.countSitters(rows, row, n, now.people)) {
            return BAD;
        }
        return fine(what == 0 ? book.always : book.firstOfMost(now.people));
    }

    /** Keeps an image of the evening. */
    public int image(int k) {
        if (k < 0 || k >= MOST_IMAGES) {
            return BAD;
        }
        if (!now.told) {
            return STATE;
        }
        images[k].takeFrom(now);
        return 1;
    }

    /** Makes the evening what an image kept. */
    public int restore(int k) {
        if (k < 0 || k >= MOST_IMAGES) {
            return BAD;
        }
        if (!images[k].told) {
            return STATE;
        }
        now.takeFrom(images[k]);
        beginAnew();
        return 1;
    }

    // ---- asked

    /** The kind of somebody, as told. */
    public int kind(int person) {
        return now.hasPerson(person) ? now.kinds[person] : BAD;
    }

    /** Takes somebody as one of a kind. */
    public int as(int person, int kind) {
        if (!now.hasPerson(person) || kind < PERSON || kind > CHILD) {
            return BAD;
        }
        return isOfKind(now.kinds[person], kind) ? fine(person) : found(KIND_FOUND);
    }

    /** Asks somebody for his size or his mark. */
    public int ask(int person, int what) {
        if (!now.hasPerson(person) || what < ASK_SIZE || what > ASK_MARK) {
            return BAD;
        }
        asks.forget();
        return asks.pose(now, person, what, 0);
    }

    /** Number i of the trace. */
    public int trace(int i) {
        return i >= 0 && i < asks.left ? asks.numbers[i] : NONE;
    }

    /** How many there are of something. */
    public int count(int what) {
        switch (what) {
            case 0:
                return rows.present();
            case 1:
                return now.people;
            case 2:
                return now.cars;
            case 3:
                return now.quarrelsTold;
            case 4:
                return drinks.kept;
            case 5:
                return now.glassesInAll();
            case 6:
                return reader.length;
            default:
                return BAD;
        }
    }

    /** The finding of the latest call with a row, or of as(). */
    public int status() {
        return finding;
    }

    private int found(int number) {
        finding = number;
        return FINDINGS - number;
    }

    private int fine(int answer) {
        finding = 0;
        return answer;
    }

    // What was kept about the evening before holds no longer.
    private void beginAnew() {
        drinks.forget();
        planner.forget();
    }

    private static boolean isRow(int row) {
        return row >= 0 && row < MOST_ROWS;
    }

    private static boolean isMinute(int minute) {
        return minute >= 0 && minute <= MOST_MINUTE;
    }

    private static boolean hasBit(int bits, int i) {
        return (bits >> i & 1) != 0;
    }

    private static boolean isOfKind(int kind, int wanted) {
        int k = kind;
        for (int step = 0; step < KIND_ABOVE.length && k >= 0 && k < KIND_ABOVE.length; step++) {
            if (k == wanted) {
                return true;
            }
            k = KIND_ABOVE[k];
        }
        return false;
    }

    // 1 at least, so that it can be divided by.
    private static int commonDivisor(int a, int b) {
        for (int d = b; d > 1; d--) {
            if (a % d == 0 && b % d == 0) {
                return d;
            }
        }
        return 1;
    }

    /** The rows, each missing or of one lane. */
    private static final class Rows {
        private final int[] lanes = {MISSING, MISSING, MISSING, MISSING, MISSING, MISSING, MISSING, MISSING};
        private final int[] sizes = new int[MOST_ROWS];
        private final int[][] items = new int[MOST_ROWS][MOST_ITEMS];

        boolean isMissing(int row) {
            return lanes[row] == MISSING;
        }

        boolean areOfOneLane(int a, int b) {
            return lanes[a] == lanes[b];
        }

        // The end is not added up, so that no number is too high for it.
        boolean hasStretch(int row, int from, int n) {
            return from >= 0 && n >= 0 && from <= sizes[row] && n <= sizes[row] - from;
        }

        void make(int row, int lane, int n) {
            lanes[row] = lane;
            sizes[row] = n;
            Arrays.fill(items[row], 0);
        }

        int put(int row, int i, int v) {
            items[row][i] = inLane(lanes[row], v);
            return items[row][i];
        }

        int item(int row, int i) {
            return items[row][i];
        }

        void move(int a, int i, int b, int j, int n) {
            System.arraycopy(items[a], i, items[b], j, n);
        }

        int takeAway(int row) {
            lanes[row] = MISSING;
            return sizes[row];
        }

        int present() {
            int n = 0;
            for (int row = 0; row < MOST_ROWS; row++) {
                if (!isMissing(row)) {
                    n++;
                }
            }
            return n;
        }

        private static int inLane(int lane, int v) {
            if (lane == BYTES) {
                return (byte) v;
            }
            return lane == SHORTS ? (short) v : v;
        }
    }

    /** An evening as a text told it, with the glasses that came since. */
    private static final class Evening {
        private boolean told = false;
        private int limit, rate;
        private int waysTold, hillsTold, quarrelsTold;
        private int people, cars;
        // Bits: sites, people.
        private int hills, sick;
        private final int[] minutes = new int[SITES * SITES];
        private final int[] kinds = new int[MOST_PEOPLE];
        private final int[] homes = new int[MOST_PEOPLE];
        private final int[] glasses = new int[MOST_PEOPLE];
        private final int[] quarrels = new int[MOST_PEOPLE];
        private final int[] owners = new int[MOST_CARS];
        private final int[] seats = new int[MOST_CARS];
        private final int[] snow = new int[MOST_CARS];

        void clear() {
            told = false;
            waysTold = 0;
            hillsTold = 0;
            quarrelsTold = 0;
            people = 0;
            cars = 0;
            hills = 0;
            sick = 0;
            Arrays.fill(minutes, UNJOINED);
            for (int site = 0; site < SITES; site++) {
                minutes[site * SITES + site] = 0;
            }
            Arrays.fill(quarrels, 0);
        }

        void takeFrom(Evening other) {
            told = other.told;
            limit = other.limit;
            rate = other.rate;
            waysTold = other.waysTold;
            hillsTold = other.hillsTold;
            quarrelsTold = other.quarrelsTold;
            people = other.people;
            cars = other.cars;
            hills = other.hills;
            sick = other.sick;
            System.arraycopy(other.minutes, 0, minutes, 0, minutes.length);
            System.arraycopy(other.kinds, 0, kinds, 0, MOST_PEOPLE);
            System.arraycopy(other.homes, 0, homes, 0, MOST_PEOPLE);
            System.arraycopy(other.glasses, 0, glasses, 0, MOST_PEOPLE);
            System.arraycopy(other.quarrels, 0, quarrels, 0, MOST_PEOPLE);
            System.arraycopy(other.owners, 0, owners, 0, MOST_CARS);
            System.arraycopy(other.seats, 0, seats, 0, MOST_CARS);
            System.arraycopy(other.snow, 0, snow, 0, MOST_CARS);
        }

        void addWay(int a, int b, int n) {
            int least = Math.min(n, minutesBetween(a, b));
            minutes[a * SITES + b] = least;
            minutes[b * SITES + a] = least;
            waysTold++;
        }

        void addHill(int site) {
            hills |= 1 << site;
            hillsTold++;
        }

        void addPerson(int kind, int homeSite, int had) {
            kinds[people] = kind;
            homes[people] = homeSite;
            glasses[people] = had;
            if (isOfKind(kind, SICK)) {
                sick |= 1 << people;
            }
            people++;
        }

        void addCar(int owner, int places, int winter) {
            owners[cars] = owner;
            seats[cars] = places;
            snow[cars] = winter;
            cars++;
        }

        void addQuarrel(int a, int b) {
            quarrels[a] |= 1 << b;
            quarrels[b] |= 1 << a;
            quarrelsTold++;
        }

        // The text is at its end: ways become the fewest minutes over all sites between.
        void finish() {
            for (int by = 0; by < SITES; by++) {
                for (int a = 0; a < SITES; a++) {
                    for (int b = 0; b < SITES; b++) {
                        int round = minutesBetween(a, by) + minutesBetween(by, b);
                        minutes[a * SITES + b] = Math.min(minutesBetween(a, b), round);
                    }
                }
            }
            told = true;
        }

        boolean hasPerson(int person) {
            return person >= 0 && person < people;
        }

        boolean hasCar(int c) {
            return c >= 0 && c < cars;
        }

        int minutesBetween(int a, int b) {
            return minutes[a * SITES + b];
        }

        boolean areJoined(int a, int b) {
            return minutesBetween(a, b) < UNJOINED;
        }

        int carOf(int person) {
            for (int c = 0; c < cars; c++) {
                if (owners[c] == person) {
                    return c;
                }
            }
            return NONE;
        }

        int siteOfOwner(int c) {
            return homes[owners[c]];
        }

        int glassesInAll() {
            int sum = 0;
            for (int p = 0; p < people; p++) {
                sum += glasses[p];
            }
            return sum;
        }

        int drunkAfter(int had, int minute) {
            return Math.max(0, 10 * had - rate * (minute / HOUR));
        }

        boolean mayDrive(int person, int had, int minute) {
            if (hasBit(sick, person) || isOfKind(kinds[person], DRIVER) && had > 0) {
                return false;
            }
            return drunkAfter(had, minute) <= limit;
        }

        // Whether a car may go to somebody's home at all.
        boolean reaches(int c, int person) {
            int site = homes[person];
            return areJoined(0, site) && (!hasBit(hills, site) || snow[c] == 1);
        }

        int carsThatGo(int minute) {
            int bits = 0;
            for (int c = 0; c < cars; c++) {
                int owner = owners[c];
                if (mayDrive(owner, glasses[owner], minute) && reaches(c, owner)) {
                    bits |= 1 << c;
                }
            }
            return bits;
        }

        boolean hasRoomFor(int c, int riders, int person) {
            int others = riders | 1 << owners[c];
            return Integer.bitCount(riders) < seats[c] && (quarrels[person] & others) == 0 && reaches(c, person);
        }

        int tripsFor(int going) {
            int leftBehind = cars - Integer.bitCount(going);
            if (leftBehind == 0) {
                return 0;
            }
            int most = 0;
            for (int c = 0; c < cars; c++) {
                if (hasBit(going, c)) {
                    most = Math.max(most, seats[c]);
                }
            }
            // The owner of a car that goes is no child: he is one of those who drive.
            int each = Math.min(most, peopleWhoDriveOnSunday() - 1);
            return each < 1 ? NONE : (leftBehind + each - 1) / each;
        }

        private int peopleWhoDriveOnSunday() {
            int n = 0;
            for (int p = 0; p < people; p++) {
                if (!isOfKind(kinds[p], CHILD)) {
                    n++;
                }
            }
            return n;
        }

        int bestHouse() {
            int best = NONE;
            int least = UNJOINED;
            for (int p = 0; p < people; p++) {
                int sum = farFromAll(p);
                if (sum < least) {
                    least = sum;
                    best = p;
                }
            }
            return best;
        }

        // UNJOINED or more where a home cannot be come to.
        int farFromAll(int person) {
            int sum = 0;
            for (int p = 0; p < people; p++) {
                sum += minutesBetween(homes[person], homes[p]);
            }
            return sum;
        }
    }

    /** The tape, and the reading of it token by token. */
    private static final class Reader {
        private static final int END = 0, NAME = 1, NUMBER = 2, SIGN = 3, NOTHING = 4;
        private static final int WAY = 1, HILL = 2, GUEST = 3, CAR = 4, QUARREL = 5, NO_WORD = 0;
        private static final int UNFIT = 1, NOT_AS_TOLD = 2, NO_ROOM = 3, MOST_FIGURES = 3;

        private final byte[] tape = new byte[MOST_BYTES];
        private int length = 0;
        private int faultNumber = 0, faultPlace = 0;
        // The token that was read last.
        private int sort, start, end, value;
        // The word of the latest statement: no statement comes behind one of a later sort.
        private int reached;

        int append(long w, int n) {
            if (n > MOST_BYTES - length) {
                return FULL;
            }
            for (int i = n - 1; i >= 0; i--) {
                tape[length] = (byte) (w >> 8 * i);
                length++;
            }
            return length;
        }

        boolean readInto(Evening evening) {
            end = 0;
            reached = NO_WORD;
            evening.clear();
            boolean read = readLaw(evening);
            // Each statement takes a byte at least.
            for (int n = 0; read && n <= MOST_BYTES; n++) {
                readToken();
                if (sort == END) {
                    break;
                }
                read = readStatement(evening);
            }
            length = 0;
            if (read) {
                evening.finish();
            }
            return read;
        }

        private boolean readLaw(Evening e) {
            readToken();
            if (!isWord("law")) {
                return fail(UNFIT);
            }
            if (!readNumber(0, 50)) {
                return false;
            }
            e.limit = value;
            if (!readNumber(1, 20)) {
                return false;
            }
            e.rate = value;
            return readSign();
        }

        private boolean readStatement(Evening e) {
            int word = statementWord();
            if (word == NO_WORD || word < reached) {
                return fail(UNFIT);
            }
            reached = word;
            switch (word) {
                case WAY:
                    return readWay(e);
                case HILL:
                    return readHill(e);
                case GUEST:
                    return readPerson(e);
                case CAR:
                    return readCar(e);
                default:
                    return readQuarrel(e);
            }
        }

        private int statementWord() {
            if (isWord("way")) {
                return WAY;
            }
            if (isWord("hill")) {
                return HILL;
            }
            if (isWord("person")) {
                return GUEST;
            }
            if (isWord("car")) {
                return CAR;
            }
            return isWord("quarrel") ? QUARREL : NO_WORD;
        }

        private boolean readWay(Evening e) {
            if (e.waysTold >= MOST_WAYS) {
                return fail(NO_ROOM);
            }
            if (!readNumber(0, SITES - 1)) {
                return false;
            }
            int a = value;
            if (!readNumber(0, SITES - 1)) {
                return false;
            }
            int b = value;
            if (a == b) {
                return fail(NOT_AS_TOLD);
            }
            if (!readNumber(1, 99)) {
                return false;
            }
            e.addWay(a, b, value);
            return readSign();
        }

        private boolean readHill(Evening e) {
            if (e.hillsTold >= MOST_HILLS) {
                return fail(NO_ROOM);
            }
            if (!readNumber(1, SITES - 1)) {
                return false;
            }
            e.addHill(value);
            return readSign();
        }

        private boolean readPerson(Evening e) {
            if (e.people >= MOST_PEOPLE) {
                return fail(NO_ROOM);
            }
            readToken();
            int kind = kindWord();
            if (kind == PERSON) {
                return fail(UNFIT);
            }
            if (!readNumber(1, SITES - 1)) {
                return false;
            }
            int site = value;
            if (!readNumber(0, 9)) {
                return false;
            }
            e.addPerson(kind, site, value);
            return readSign();
        }

        // PERSON where it is none: that one has no word of its own.
        private int kindWord() {
            if (isWord("plain")) {
                return PLAIN;
            }
            if (isWord("sick")) {
                return SICK;
            }
            if (isWord("child")) {
                return CHILD;
            }
            if (isWord("driver")) {
                return DRIVER;
            }
            return isWord("stranger") ? STRANGER : PERSON;
        }

        private boolean readCar(Evening e) {
            if (e.cars >= MOST_CARS) {
                return fail(NO_ROOM);
            }
            if (!readNumber(0, e.people - 1)) {
                return false;
            }
            int owner = value;
            if (e.carOf(owner) != NONE) {
                return fail(NOT_AS_TOLD);
            }
            if (!readNumber(1, MOST_SEATS)) {
                return false;
            }
            int places = value;
            if (!readNumber(0, 1)) {
                return false;
            }
            e.addCar(owner, places, value);
            return readSign();
        }

        private boolean readQuarrel(Evening e) {
            if (e.quarrelsTold >= MOST_QUARRELS) {
                return fail(NO_ROOM);
            }
            if (!readNumber(0, e.people - 1)) {
                return false;
            }
            int a = value;
            if (!readNumber(0, e.people - 1)) {
                return false;
            }
            int b = value;
            if (a == b) {
                return fail(NOT_AS_TOLD);
            }
            e.addQuarrel(a, b);
            return readSign();
        }

        private boolean readNumber(int least, int most) {
            readToken();
            if (sort != NUMBER) {
                return fail(UNFIT);
            }
            return value >= least && value <= most || fail(NOT_AS_TOLD);
        }

        private boolean readSign() {
            readToken();
            return sort == SIGN || fail(UNFIT);
        }

        private boolean fail(int number) {
            faultNumber = number;
            faultPlace = start;
            return false;
        }

        private void readToken() {
            start = end;
            while (start < length && isGap(tape[start])) {
                start++;
            }
            end = start;
            if (start >= length) {
                sort = END;
            } else if (isLetter(tape[start])) {
                readLetters();
            } else if (isFigure(tape[start])) {
                readFigures();
            } else {
                sort = tape[start] == ';' ? SIGN : NOTHING;
                end++;
            }
        }

        private void readLetters() {
            sort = NAME;
            while (end < length && isLetter(tape[end])) {
                end++;
            }
        }

        private void readFigures() {
            value = 0;
            while (end < length && isFigure(tape[end])) {
                // A longer run is no number, whatever it would be worth.
                if (end - start < MOST_FIGURES) {
                    value = 10 * value + tape[end] - '0';
                }
                end++;
            }
            sort = end - start <= MOST_FIGURES ? NUMBER : NOTHING;
        }

        private boolean isWord(String word) {
            if (sort != NAME || end - start != word.length()) {
                return false;
            }
            for (int i = 0; i < word.length(); i++) {
                if (tape[start + i] != word.charAt(i)) {
                    return false;
                }
            }
            return true;
        }

        private static boolean isGap(byte b) {
            return b == ' ' || b == '\n';
        }

        private static boolean isLetter(byte b) {
            return b >= 'a' && b <= 'z';
        }

        private static boolean isFigure(byte b) {
            return b >= '0' && b <= '9';
        }
    }

    /** The latest drinks, which can be undone. */
    private static final class Drinks {
        private final int[] who = new int[MOST_UNDONE];
        private final int[] many = new int[MOST_UNDONE];
        private int kept = 0;

        void forget() {
            kept = 0;
        }

        void keep(int person, int n) {
            if (kept == MOST_UNDONE) {
                System.arraycopy(who, 1, who, 0, MOST_UNDONE - 1);
                System.arraycopy(many, 1, many, 0, MOST_UNDONE - 1);
                kept--;
            }
            who[kept] = person;
            many[kept] = n;
            kept++;
        }

        void takeBack(Evening e) {
            if (kept > 0) {
                kept--;
                e.glasses[who[kept]] -= many[kept];
            }
        }
    }

    /**
     * Who is in which car. Of one evening this hangs on nothing but which cars go, and a car's minutes on nothing
     * but who is in it; so both are kept till another evening comes.
     */
    private static final class Planner {
        private static final int UNKNOWN = -1;

        private final int[] known = new int[MOST_CARS << MOST_PEOPLE];
        private final int[] riders = new int[MOST_CARS];
        private int planned = UNKNOWN;
        private int couch = 0, minutes = 0, fewest = 0;
        // Of the plan that is being tried.
        private final int[] aboard = new int[MOST_CARS];
        private int going, drivers;
        // Of the line of riders that is being tried, and of the shortest one.
        private final int[] line = new int[MOST_SEATS];
        private final int[] shortestLine = new int[MOST_SEATS];
        private int shortest;

        void forget() {
            planned = UNKNOWN;
            Arrays.fill(known, UNKNOWN);
        }

        int ridersOf(int c) {
            return riders[c];
        }

        void plan(Evening e, int carsThatGo) {
            if (planned == carsThatGo) {
                return;
            }
            planned = carsThatGo;
            going = carsThatGo;
            drivers = 0;
            for (int c = 0; c < MOST_CARS; c++) {
                if (hasBit(going, c)) {
                    drivers |= 1 << e.owners[c];
                }
            }
            fewest = MOST_PEOPLE + 1;
            seat(e, 0, 0);
        }

        // Lesser cars first and the couch last: of like plans the first is the one that is kept.
        private void seat(Evening e, int person, int staying) {
            if (Integer.bitCount(staying) > fewest) {
                return;
            }
            if (person >= e.people) {
                keepIfBetter(e, staying);
                return;
            }
            int bit = 1 << person;
            if ((drivers & bit) != 0) {
                seat(e, person + 1, staying);
                return;
            }
            for (int c = 0; c < e.cars; c++) {
                if (hasBit(going, c) && e.hasRoomFor(c, aboard[c], person)) {
                    aboard[c] |= bit;
                    seat(e, person + 1, staying);
                    aboard[c] &= ~bit;
                }
            }
            seat(e, person + 1, staying | bit);
        }

        private void keepIfBetter(Evening e, int staying) {
            int sum = 0;
            for (int c = 0; c < e.cars; c++) {
                if (hasBit(going, c)) {
                    sum += minutesOf(e, c, aboard[c]);
                }
            }
            int stay = Integer.bitCount(staying);
            if (stay < fewest || stay == fewest && sum < minutes) {
                fewest = stay;
                minutes = sum;
                couch = staying;
                System.arraycopy(aboard, 0, riders, 0, MOST_CARS);
            }
        }

        int minutesOf(Evening e, int c, int bits) {
            int key = c << MOST_PEOPLE | bits;
            if (known[key] == UNKNOWN) {
                shortest = UNJOINED;
                walk(e, e.siteOfOwner(c), bits, 0, 0, 0);
                known[key] = shortest;
            }
            return known[key];
        }

        int setDownAs(Evening e, int c, int bits, int k) {
            if (k < 0 || k >= Integer.bitCount(bits) || k >= MOST_SEATS) {
                return NONE;
            }
            shortest = UNJOINED;
            walk(e, e.siteOfOwner(c), bits, 0, 0, 0);
            return shortestLine[k];
        }

        // Lesser numbers first: of like lines the first is the one that is kept.
        private void walk(Evening e, int lastSite, int left, int site, int spent, int depth) {
            if (spent >= shortest || depth > MOST_SEATS) {
                return;
            }
            if (left == 0) {
                int whole = spent + e.minutesBetween(site, lastSite);
                if (whole < shortest) {
                    shortest = whole;
                    System.arraycopy(line, 0, shortestLine, 0, MOST_SEATS);
                }
                return;
            }
            int next = (left & e.sick) != 0 ? left & e.sick : left;
            for (int p = 0; p < e.people && depth < MOST_SEATS; p++) {
                if (hasBit(next, p)) {
                    line[depth] = p;
                    int then = spent + e.minutesBetween(site, e.homes[p]);
                    walk(e, lastSite, left & ~(1 << p), e.homes[p], then, depth + 1);
                }
            }
        }
    }

    /** What a row of evenings tells of the people. */
    private static final class Book {
        private final int[] times = new int[MOST_PEOPLE];
        private int always = 0;

        boolean countDrives(Rows rows, int row, int n, int people) {
            Arrays.fill(times, 0);
            for (int i = 0; i < n; i++) {
                int who = rows.item(row, i);
                if (who < 0 || who >= people) {
                    return false;
                }
                times[who]++;
            }
            return true;
        }

        boolean countSitters(Rows rows, int row, int n, int people) {
            Arrays.fill(times, 0);
            int all = (1 << people) - 1;
            always = all;
            for (int i = 0; i < n; i++) {
                int sitters = rows.item(row, i);
                if ((sitters & ~all) != 0) {
                    return false;
                }
                always &= sitters;
                for (int p = 0; p < people; p++) {
                    times[p] += sitters >> p & 1;
                }
            }
            return true;
        }

        int firstOfFewest(int people) {
            int first = 0;
            for (int p = 1; p < people; p++) {
                if (times[p] < times[first]) {
                    first = p;
                }
            }
            return first;
        }

        int firstOfMost(int people) {
            int first = 0;
            for (int p = 1; p < people; p++) {
                if (times[p] > times[first]) {
                    first = p;
                }
            }
            return first;
        }

        // Who drove most often gets no turn before all the others have come up to him.
        int missingDrives(int people) {
            int most = times[firstOfMost(people)];
            int sum = 0;
            for (int p = 0; p < people; p++) {
                sum += most - times[p];
            }
            return sum;
        }
    }

    /** Asks of people, and the trace of the bodies that began. */
    private static final class Asks {
        private final int[] numbers = new int[MOST_TRACE];
        private int left = 0;

        void forget() {
            left = 0;
        }

        int pose(Evening e, int person, int what, int depth) {
            int[] bodies = what == ASK_SIZE ? SIZE_BODIES : MARK_BODIES;
            int k = e.kinds[person];
            for (int step = 0; step < bodies.length && k > PERSON && bodies[k] == 0; step++) {
                k = KIND_ABOVE[k];
            }
            return begin(e, person, bodies[Math.max(k, PERSON)], depth);
        }

        private int begin(Evening e, int person, int body, int depth) {
            if (depth > DEEPEST_ASK) {
                return 0;
            }
            leave(body);
            int next = depth + 1;
            switch (body) {
                case 10:
                    return e.glasses[person];
                case 11:
                    return begin(e, person, 10, next) + pose(e, person, ASK_MARK, next);
                case 12:
                    return -begin(e, person, 11, next);
                case 13:
                    return begin(e, person, 10, next) - 100;
                case 14:
                    return 2 * begin(e, person, 13, next);
                case 20:
                    return person;
                case 21:
                    return begin(e, person, 20, next) + 10 * e.homes[person];
                case 22:
                    return begin(e, person, 21, next) - 1000;
                case 23:
                    return begin(e, person, 20, next) - pose(e, person, ASK_SIZE, next);
                default:
                    return 2 * begin(e, person, 21, next);
            }
        }

        private void leave(int body) {
            if (left < MOST_TRACE) {
                numbers[left] = body;
                left++;
            }
        }
    }
}
