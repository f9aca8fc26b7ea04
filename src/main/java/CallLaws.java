/**
 * Services that call each other, in editions, and the sayings that each side is held to.
 * The document (../shared/DOC.md) tells what every call answers; words in capitals are its terms.
 *
 * Two forms are used throughout. A CASE is an ASK in a MOOD: the number MOODS * ask + mood, or a bit
 * of a set of cases; so rising cases are the order "first ASK, then MOOD". A set of ANSWERS is a word
 * of 29 bits: of each FIELD one bit for each of its seven values (6: left out), and the bit REFUSED.
 * One ANSWER is the set that has it alone, so "allowed" is "has no bit that the other lacks".
 */
public final class CallLaws {
    public static final int NONE = -1000000, BAD = -1000001, STATE = -1000002, FULL = -1000003;

    private static final int FINDING = -1000010, FAULT = -1000100;
    private static final int NULL = 1, PLACE = 2, KIND = 3, SIZE = 4, STORE = 5;

    private static final int SHEETS = 8, LANES = 3, ITEMS = 40, MOST_TRIED = 20;
    private static final int SERVICES = 4, EDITIONS = 4, SAYINGS = 20, RULES = 6;
    private static final int ASKS = 8, MOODS = 3, ANY_MOOD = 3, CASES = ASKS * MOODS;
    private static final int FIELDS = 4, VALUES = 7, LEFT_OUT = 6, FIELD_BITS = (1 << VALUES) - 1;
    private static final int REFUSED_NUMBER = 2401, REFUSED = 1 << FIELDS * VALUES;
    private static final int ALL_ANSWERS = (REFUSED << 1) - 1;
    private static final int TAPE = 500, HOUSES = 625, TRACE = 16;

    private static final int PLAIN = 0, GIVEN = 1, REFUSES = 2, BEFORE = 3, LOOSE = 4, QUARREL = 5;
    private static final int KINDS = 6;
    /** Of each KIND the one that it is, too. */
    private static final int[] ABOVE = {NONE, PLAIN, PLAIN, GIVEN, GIVEN, PLAIN};
    /** Asks go two bodies deep at most; this bound only shows that they end. */
    private static final int DEEPEST_ASK = 4;

    private final Sheet[] sheets;
    private final Tape tape;
    private final Told told;
    private final Reader reader;
    private final Houses houses;
    private final int[] traced;
    private int tracedCount;
    private int latestFault;
    private int latestFinding;

    public CallLaws() {
        sheets = new Sheet[SHEETS];
        for (int i = 0; i < SHEETS; i++) {
            sheets[i] = new Sheet();
        }
        tape = new Tape();
        told = new Told();
        reader = new Reader(tape, told);
        houses = new Houses(told);
        traced = new int[TRACE];
    }

    // ---- sheets

    public int sheet(int sheet, int lane, int n) {
        if (!isBelow(sheet, SHEETS) || !isBelow(lane, LANES) || n > ITEMS) {
            return BAD;
        }
        if (n < 0) {
            return found(SIZE);
        }
        sheets[sheet].begin(lane, n);
        return well(n);
    }

    public int set(int sheet, int i, int v) {
        if (!isBelow(sheet, SHEETS)) {
            return BAD;
        }
        Sheet row = sheets[sheet];
        if (!row.here) {
            return found(NULL);
        }
        if (!isBelow(i, row.size)) {
            return found(PLACE);
        }
        row.items[i] = row.cut(v);
        return well(row.items[i]);
    }

    public int copy(int a, int i, int b, int j, int n) {
        if (!isBelow(a, SHEETS) || !isBelow(b, SHEETS)) {
            return BAD;
        }
        Sheet source = sheets[a];
        Sheet target = sheets[b];
        if (!source.here || !target.here) {
            return found(NULL);
        }
        if (source.lane != target.lane) {
            return found(STORE);
        }
        if (!source.reaches(i, n) || !target.reaches(j, n)) {
            return found(PLACE);
        }
        System.arraycopy(source.items, i, target.items, j, n);
        return well(n);
    }

    public int drop(int sheet) {
        if (!isBelow(sheet, SHEETS)) {
            return BAD;
        }
        Sheet row = sheets[sheet];
        if (!row.here) {
            return found(NULL);
        }
        row.here = false;
        return well(row.size);
    }

    // ---- laws

    public int feed(long w, int n) {
        if (n < 1 || n > 8) {
            return BAD;
        }
        if (tape.length + n > TAPE) {
            return FULL;
        }
        for (int i = n - 1; i >= 0; i--) {
            tape.bytes[tape.length] = (byte) (w >> 8 * i);
            tape.length++;
        }
        return tape.length;
    }

    public int laws() {
        tape.split();
        tape.length = 0;
        reader.readText();
        if (reader.fault != 0) {
            latestFault = reader.fault;
            return FAULT - reader.place();
        }
        told.settle(reader.draft);
        return told.stand.sayings;
    }

    public int fault() {
        return latestFault;
    }

    public int editions(int service) {
        return isBelow(service, SERVICES) ? told.stand.editions[service] : BAD;
    }

    public int answer(int service, int edition, int ask, int mood, int what) {
        if (!told.hasEdition(service, edition) || !isCase(ask, mood) || !isBelow(what, FIELDS + 1)) {
            return BAD;
        }
        int given = told.editionOf(service, edition).answers[caseOf(ask, mood)];
        boolean refused = given == REFUSED;
        if (what == FIELDS) {
            return refused ? 1 : 0;
        }
        return refused ? NONE : nthBit(fieldOf(given, what), 0);
    }

    public int saying(int saying, int what) {
        if (!told.hasSaying(saying)) {
            return BAD;
        }
        Saying row = told.sayings[saying];
        switch (what) {
            case 0: return row.caller;
            case 1: return row.edition;
            case 2: return row.giver;
            case 3: return row.from;
            case 4: return row.to;
            case 5: return row.mood;
            case 6: return row.allowed == REFUSED ? 1 : 0;
            case 7: return row.fields;
            default: return BAD;
        }
    }

    // ---- plays

    public int play(int saying, int edition, int what) {
        if (!told.hasSaying(saying) || !isBelow(what, 2)) {
            return BAD;
        }
        Saying row = told.sayings[saying];
        if (!told.hasEdition(row.giver, edition)) {
            return BAD;
        }
        Edition giving = told.editionOf(row.giver, edition);
        int broken = firstBroken(row, giving);
        if (what == 0) {
            return broken == NONE ? 1 : 0;
        }
        if (broken == NONE) {
            return NONE;
        }
        return 64 * (broken / MOODS) + 8 * (broken % MOODS) + wrongField(giving.answers[broken], row.allowed);
    }

    public int standIn(int caller, int edition, int giver, int ask, int mood, int i) {
        if (!isBelow(caller, SERVICES) || !isBelow(edition, EDITIONS) || !isBelow(giver, SERVICES)) {
            return BAD;
        }
        if (caller == giver || !isCase(ask, mood) || i < -1) {
            return BAD;
        }
        int allowed = told.standIns(caller, edition, giver, caseOf(ask, mood));
        int given = countGiven(allowed);
        int all = (allowed & REFUSED) != 0 ? given + 1 : given;
        if (i == -1) {
            return all;
        }
        if (i >= all) {
            return NONE;
        }
        return i < given ? nthGiven(allowed, i) : REFUSED_NUMBER;
    }

    public int allows(int saying, int sheet, int i, int n) {
        if (!told.hasSaying(saying) || !isBelow(sheet, SHEETS) || n < 1 || n > MOST_TRIED) {
            return BAD;
        }
        Sheet row = sheets[sheet];
        if (!row.here) {
            return found(NULL);
        }
        if (!row.reaches(i, n)) {
            return found(PLACE);
        }
        int many = 0;
        for (int k = i; k < i + n; k++) {
            if (!isBelow(row.items[k], REFUSED_NUMBER + 1)) {
                return BAD;
            }
            if (isWithin(answerOf(row.items[k]), told.sayings[saying].allowed)) {
                many++;
            }
        }
        return well(many);
    }

    public int noMore(int saying, int other) {
        if (!told.hasSaying(saying) || !told.hasSaying(other)) {
            return BAD;
        }
        Saying less = told.sayings[saying];
        Saying more = told.sayings[other];
        if (less.giver != more.giver) {
            return STATE;
        }
        return isWithin(less.about, more.about) && isWithin(more.allowed, less.allowed) ? 1 : 0;
    }

    public int quarrel(int giver) {
        return isBelow(giver, SERVICES) ? told.quarrels[giver] : BAD;
    }

    public int change(int giver, int from, int to) {
        if (!told.hasEdition(giver, from) || !told.hasEdition(giver, to)) {
            return BAD;
        }
        return told.editionOf(giver, from).kept & ~told.editionOf(giver, to).kept;
    }

    public int right(int saying) {
        if (!told.hasSaying(saying)) {
            return BAD;
        }
        Saying row = told.sayings[saying];
        return row.fields & ~told.stand.looks[row.caller * EDITIONS + row.edition];
    }

    // ---- houses, hours

    public int house(int house, int what) {
        if (!houses.isThere(house) || !isBelow(what, 2)) {
            return BAD;
        }
        int broken = houses.leastBroken(house);
        if (what == 0) {
            return broken == NONE ? 1 : 0;
        }
        return broken;
    }

    public int letOut(int from, int to, int what) {
        if (!houses.isThere(from) || !houses.isThere(to) || !isBelow(what, 2)) {
            return BAD;
        }
        houses.measureWaysTo(to);
        return what == 0 ? houses.stepsFrom(from) : houses.firstFrom(from);
    }

    public int hours(int service) {
        return isBelow(service, SERVICES) ? addHours(told.stand, service, 0) : BAD;
    }

    // ---- asked

    public int kind(int saying) {
        return told.hasSaying(saying) ? told.kindOf(saying) : BAD;
    }

    public int as(int saying, int kind) {
        if (!told.hasSaying(saying) || !isBelow(kind, KINDS)) {
            return BAD;
        }
        int is = told.kindOf(saying);
        for (int steps = 0; steps < KINDS && is != NONE; steps++) {
            if (is == kind) {
                return well(saying);
            }
            is = ABOVE[is];
        }
        return found(KIND);
    }

    public int ask(int saying, int what) {
        if (!told.hasSaying(saying) || !isBelow(what, 2)) {
            return BAD;
        }
        tracedCount = 0;
        int is = told.kindOf(saying);
        return what == 0 ? askSize(saying, is, 0) : askMark(saying, is, 0);
    }

    public int trace(int i) {
        return isBelow(i, tracedCount) ? traced[i] : NONE;
    }

    public int count(int what) {
        switch (what) {
            case 0: return countSheets();
            case 1: return told.countEditions();
            case 2: return told.stand.sayings;
            case 3: return told.countKept();
            case 4: return told.countWithin();
            case 5: return tape.length;
            default: return BAD;
        }
    }

    public int status() {
        return latestFinding;
    }

    // ---- what the calls share

    private int found(int finding) {
        latestFinding = finding;
        return FINDING - finding;
    }

    private int well(int given) {
        latestFinding = 0;
        return given;
    }

    private int countSheets() {
        int many = 0;
        for (int i = 0; i < SHEETS; i++) {
            if (sheets[i].here) {
                many++;
            }
        }
        return many;
    }

    private static boolean isBelow(int number, int end) {
        return number >= 0 && number < end;
    }

    private static boolean isCase(int ask, int mood) {
        return isBelow(ask, ASKS) && isBelow(mood, MOODS);
    }

    private static int caseOf(int ask, int mood) {
        return MOODS * ask + mood;
    }

    private static int casesOf(int from, int to, int mood) {
        int moods = mood == ANY_MOOD ? (1 << MOODS) - 1 : 1 << mood;
        int cases = 0;
        for (int ask = from; ask <= to; ask++) {
            cases |= moods << MOODS * ask;
        }
        return cases;
    }

    private static boolean isWithin(int set, int other) {
        return (set & ~other) == 0;
    }

    /** A way of calls longer than there are SERVICES has come to one of them again. */
    private static int addHours(Ledger stand, int service, int depth) {
        if (depth >= SERVICES || stand.ownHours[service] == NONE) {
            return NONE;
        }
        int sum = stand.ownHours[service];
        for (int called = 0; called < SERVICES; called++) {
            if ((stand.calls[service] >> called & 1) != 0) {
                int needed = addHours(stand, called, depth + 1);
                if (needed == NONE) {
                    return NONE;
                }
                sum += needed;
            }
        }
        return sum;
    }

    // ---- sets of answers

    private static int fieldOf(int answers, int field) {
        return answers >> VALUES * field & FIELD_BITS;
    }

    private static int answerOf(int number) {
        if (number == REFUSED_NUMBER) {
            return REFUSED;
        }
        int answers = 0;
        int rest = number;
        for (int field = 0; field < FIELDS; field++) {
            answers |= 1 << VALUES * field + rest % VALUES;
            rest /= VALUES;
        }
        return answers;
    }

    private static int countGiven(int answers) {
        int many = 1;
        for (int field = 0; field < FIELDS; field++) {
            many *= Integer.bitCount(fieldOf(answers, field));
        }
        return many;
    }

    /** The number of the n-th ANSWER with four FIELDS: FIELD 0 turns fastest, as it weighs least. */
    private static int nthGiven(int answers, int n) {
        int number = 0;
        int weight = 1;
        int rest = n;
        for (int field = 0; field < FIELDS; field++) {
            int values = fieldOf(answers, field);
            int many = Integer.bitCount(values);
            if (many == 0) {
                return NONE;
            }
            number += weight * nthBit(values, rest % many);
            rest /= many;
            weight *= VALUES;
        }
        return number;
    }

    private static int nthBit(int values, int n) {
        int before = 0;
        for (int value = 0; value < VALUES; value++) {
            if ((values >> value & 1) != 0) {
                if (before == n) {
                    return value;
                }
                before++;
            }
        }
        return NONE;
    }

    private static boolean hasNone(int answers) {
        return (answers & REFUSED) == 0 && countGiven(answers) == 0;
    }

    /** The first case in which an EDITION does not ANSWER as a SAYING ALLOWS, or NONE. */
    private static int firstBroken(Saying row, Edition giving) {
        for (int at = 0; at < CASES; at++) {
            if ((row.about >> at & 1) != 0 && !isWithin(giving.answers[at], row.allowed)) {
                return at;
            }
        }
        return NONE;
    }

    private static int wrongField(int given, int allowed) {
        if ((given & REFUSED) != (allowed & REFUSED)) {
            return FIELDS;
        }
        for (int field = 0; field < FIELDS; field++) {
            if (fieldOf(given & ~allowed, field) != 0) {
                return field;
            }
        }
        return FIELDS;
    }

    // ---- the bodies of asks

    private void leave(int body) {
        if (tracedCount < TRACE) {
            traced[tracedCount] = body;
            tracedCount++;
        }
    }

    private int askSize(int saying, int is, int depth) {
        if (depth > DEEPEST_ASK) {
            return 0;
        }
        switch (is) {
            case GIVEN:
            case LOOSE: return sizeOfGiven(saying);
            case BEFORE: return sizeOfBefore(saying);
            case REFUSES: return sizeOfRefuses(saying, is, depth);
            case QUARREL: return sizeOfQuarrel(saying);
            default: return sizeLent(saying);
        }
    }

    private int askMark(int saying, int is, int depth) {
        if (depth > DEEPEST_ASK) {
            return 0;
        }
        switch (is) {
            case GIVEN:
            case BEFORE: return markOfGiven(saying);
            case LOOSE: return markOfLoose(saying, is, depth);
            case QUARREL: return markOfQuarrel(saying);
            default: return markLent(saying);
        }
    }

    private int sizeLent(int saying) {
        leave(10);
        return Integer.bitCount(told.sayings[saying].about);
    }

    private int sizeOfGiven(int saying) {
        leave(11);
        return sizeLent(saying) + Integer.bitCount(told.sayings[saying].fields);
    }

    private int sizeOfBefore(int saying) {
        leave(12);
        return 2 * sizeOfGiven(saying);
    }

    private int sizeOfRefuses(int saying, int is, int depth) {
        leave(13);
        int lent = sizeLent(saying);
        return lent - askMark(saying, is, depth + 1);
    }

    private int sizeOfQuarrel(int saying) {
        leave(14);
        return -sizeLent(saying);
    }

    private int markLent(int saying) {
        leave(20);
        return saying;
    }

    private int markOfGiven(int saying) {
        leave(21);
        return markLent(saying) + 100;
    }

    private int markOfLoose(int saying, int is, int depth) {
        leave(22);
        int given = markOfGiven(saying);
        return given + askSize(saying, is, depth + 1);
    }

    private int markOfQuarrel(int saying) {
        leave(23);
        return markLent(saying) + 1000;
    }

    /** A SHEET; its row of ITEMS is made once and used again. */
    private static final class Sheet {
        final int[] items = new int[ITEMS];
        boolean here;
        int lane;
        int size;

        void begin(int ofLane, int n) {
            here = true;
            lane = ofLane;
            size = n;
            for (int i = 0; i < ITEMS; i++) {
                items[i] = 0;
            }
        }

        int cut(int v) {
            if (lane == 0) {
                return (byte) v;
            }
            return lane == 1 ? (short) v : v;
        }

        /** Whether there are n ITEMS from i on; subtracted, as a sum could wrap around. */
        boolean reaches(int i, int n) {
            return i >= 0 && n >= 0 && i <= size && n <= size - i;
        }
    }

    private static final class Saying {
        int caller;
        int edition;
        int giver;
        int from;
        int to;
        int mood;
        int fields;
        int about;
        int allowed;
    }

    private static final class Edition {
        /** Of each case the ANSWER; the rules are not needed behind them. */
        final int[] answers = new int[CASES];
        /** The SAYINGS that it KEEPS. */
        int kept;
    }

    /** How much is told, and what a later text can tell anew; the rows of SAYINGS and EDITIONS only grow. */
    private static final class Ledger {
        final int[] editions = new int[SERVICES];
        final int[] looks = new int[SERVICES * EDITIONS];
        /** NONE: WITHIN is not told. */
        final int[] ownHours = new int[SERVICES];
        final int[] calls = new int[SERVICES];
        int sayings;

        Ledger() {
            for (int service = 0; service < SERVICES; service++) {
                ownHours[service] = NONE;
            }
        }

        void become(Ledger other) {
            System.arraycopy(other.editions, 0, editions, 0, SERVICES);
            System.arraycopy(other.looks, 0, looks, 0, SERVICES * EDITIONS);
            System.arraycopy(other.ownHours, 0, ownHours, 0, SERVICES);
            System.arraycopy(other.calls, 0, calls, 0, SERVICES);
            sayings = other.sayings;
        }
    }

    /** All that texts have told, and what follows from it and is asked for often. */
    private static final class Told {
        final Ledger stand = new Ledger();
        final Saying[] sayings = new Saying[SAYINGS];
        final Edition[] editions = new Edition[SERVICES * EDITIONS];
        final int[] quarrels = new int[SERVICES];

        Told() {
            for (int i = 0; i < SAYINGS; i++) {
                sayings[i] = new Saying();
            }
            for (int i = 0; i < SERVICES * EDITIONS; i++) {
                editions[i] = new Edition();
            }
        }

        boolean hasSaying(int number) {
            return isBelow(number, stand.sayings);
        }

        boolean hasEdition(int service, int number) {
            return isBelow(service, SERVICES) && isBelow(number, stand.editions[service]);
        }

        Edition editionOf(int service, int number) {
            return editions[service * EDITIONS + number];
        }

        void settle(Ledger draft) {
            stand.become(draft);
            for (int service = 0; service < SERVICES; service++) {
                for (int number = 0; number < stand.editions[service]; number++) {
                    editionOf(service, number).kept = keptBy(service, number);
                }
                quarrels[service] = leastQuarrel(service);
            }
        }

        int keptBy(int service, int number) {
            int kept = 0;
            for (int i = 0; i < stand.sayings; i++) {
                if (sayings[i].giver == service && firstBroken(sayings[i], editionOf(service, number)) == NONE) {
                    kept |= 1 << i;
                }
            }
            return kept;
        }

        /**
         * Two or three SAYINGS are enough: where 'refuse' meets 'give', these two quarrel; else one FIELD
         * has no value, so two of its spans lie apart, and if both may be left out, a third one forbids that.
         * The greater SAYING turns slowest, so that the first found has the least number.
         */
        int leastQuarrel(int giver) {
            for (int c = 1; c < stand.sayings; c++) {
                for (int b = 0; b < c; b++) {
                    if (sharesGiver(giver, b, c) && hasNone(sayings[b].allowed & sayings[c].allowed)) {
                        return 1 << b | 1 << c;
                    }
                }
            }
            for (int c = 2; c < stand.sayings; c++) {
                for (int b = 1; b < c; b++) {
                    int first = sharesGiver(giver, b, c) ? leastThird(b, c) : NONE;
                    if (first != NONE) {
                        return 1 << first | 1 << b | 1 << c;
                    }
                }
            }
            return 0;
        }

        /** Whether both are of the giver, and ABOUT some one case. */
        boolean sharesGiver(int giver, int b, int c) {
            return sayings[b].giver == giver && sayings[c].giver == giver
                && (sayings[b].about & sayings[c].about) != 0;
        }

        int leastThird(int b, int c) {
            int about = sayings[b].about & sayings[c].about;
            int allowed = sayings[b].allowed & sayings[c].allowed;
            for (int a = 0; a < b; a++) {
                if (sayings[a].giver == sayings[b].giver && (about & sayings[a].about) != 0
                    && hasNone(allowed & sayings[a].allowed)) {
                    return a;
                }
            }
            return NONE;
        }

        int standIns(int caller, int edition, int giver, int at) {
            int allowed = ALL_ANSWERS;
            for (int i = 0; i < stand.sayings; i++) {
                Saying row = sayings[i];
                if (row.caller == caller && row.edition == edition && row.giver == giver
                    && (row.about >> at & 1) != 0) {
                    allowed &= row.allowed;
                }
            }
            return allowed;
        }

        int kindOf(int number) {
            Saying row = sayings[number];
            if ((quarrels[row.giver] >> number & 1) != 0) {
                return QUARREL;
            }
            if (row.allowed == REFUSED) {
                return REFUSES;
            }
            if (row.mood != ANY_MOOD) {
                return BEFORE;
            }
            return row.fields == 0 ? LOOSE : GIVEN;
        }

        int countEditions() {
            int many = 0;
            for (int service = 0; service < SERVICES; service++) {
                many += stand.editions[service];
            }
            return many;
        }

        int countKept() {
            int kept = 0;
            for (int service = 0; service < SERVICES; service++) {
                for (int number = 0; number < stand.editions[service]; number++) {
                    kept |= editionOf(service, number).kept;
                }
            }
            return Integer.bitCount(kept);
        }

        int countWithin() {
            int many = 0;
            for (int service = 0; service < SERVICES; service++) {
                if (stand.ownHours[service] != NONE) {
                    many++;
                }
            }
            return many;
        }
    }

    /** HOUSES, and how far each is from the one that was measured last. */
    private static final class Houses {
        static final int[] WEIGHTS = {1, 5, 25, 125};
        static final int PLACES = 5, RED = -2, FAR = -1;
        final Told told;
        final int[] steps = new int[HOUSES];
        final int[] queue = new int[HOUSES];
        int queued;

        Houses(Told told) {
            this.told = told;
        }

        boolean isThere(int house) {
            if (!isBelow(house, HOUSES)) {
                return false;
            }
            for (int service = 0; service < SERVICES; service++) {
                if (standing(house, service) > told.stand.editions[service]) {
                    return false;
                }
            }
            return true;
        }

        /** Its EDITION and 1, or 0. */
        int standing(int house, int service) {
            return house / WEIGHTS[service] % PLACES;
        }

        int leastBroken(int house) {
            for (int i = 0; i < told.stand.sayings; i++) {
                Saying row = told.sayings[i];
                int giving = standing(house, row.giver);
                if (giving != 0 && standing(house, row.caller) == row.edition + 1
                    && (told.editionOf(row.giver, giving - 1).kept >> i & 1) == 0) {
                    return i;
                }
            }
            return NONE;
        }

        /** Each step can be undone by a step, so ways to a HOUSE are measured from it. */
        void measureWaysTo(int to) {
            for (int i = 0; i < HOUSES; i++) {
                steps[i] = FAR;
            }
            queued = 0;
            reach(to, 0);
            for (int i = 0; i < HOUSES && i < queued; i++) {
                spread(queue[i]);
            }
        }

        void reach(int house, int distance) {
            if (steps[house] != FAR) {
                return;
            }
            if (leastBroken(house) != NONE || queued >= HOUSES) {
                steps[house] = RED;
                return;
            }
            steps[house] = distance;
            queue[queued] = house;
            queued++;
        }

        void spread(int house) {
            for (int service = 0; service < SERVICES; service++) {
                int empty = house - standing(house, service) * WEIGHTS[service];
                for (int put = 0; put <= told.stand.editions[service]; put++) {
                    reach(empty + put * WEIGHTS[service], steps[house] + 1);
                }
            }
        }

        int stepsFrom(int from) {
            return steps[from] < 0 ? NONE : steps[from];
        }

        int firstFrom(int from) {
            if (steps[from] < 1) {
                return NONE;
            }
            int least = NONE;
            for (int service = 0; service < SERVICES; service++) {
                int empty = from - standing(from, service) * WEIGHTS[service];
                for (int put = 0; put <= told.stand.editions[service]; put++) {
                    int next = empty + put * WEIGHTS[service];
                    if (steps[next] == steps[from] - 1 && (least == NONE || next < least)) {
                        least = next;
                    }
                }
            }
            return least;
        }
    }

    /** THE TAPE, and the TOKENS that it was split into last: a NUMBER is its value, all others are above. */
    private static final class Tape {
        static final int MOST = 99, END = 100, SEMICOLON = 101, EDITION_WORD = 102, SAYING_WORD = 103;
        static final int TRY_WORD = 104, WITHIN_WORD = 105, WHEN_WORD = 106, REFUSE_WORD = 107;
        static final int GIVE_WORD = 108, NO_TOKEN = 109;
        final byte[] bytes = new byte[TAPE];
        final byte[] tokens = new byte[TAPE + 1];
        final short[] starts = new short[TAPE + 1];
        int length;

        void split() {
            int many = 0;
            for (int at = 0; at < length; at++) {
                if (beginsToken(at)) {
                    tokens[many] = (byte) tokenOf(at, endOfToken(at));
                    starts[many] = (short) at;
                    many++;
                }
            }
            tokens[many] = END;
            starts[many] = (short) length;
        }

        /** A letter behind a letter, or a figure behind a figure, goes on with the TOKEN that stands there. */
        boolean beginsToken(int at) {
            byte b = bytes[at];
            if (b == ' ' || b == '\n') {
                return false;
            }
            if (at == 0) {
                return true;
            }
            byte ahead = bytes[at - 1];
            return !(isLetter(b) && isLetter(ahead)) && !(isFigure(b) && isFigure(ahead));
        }

        int endOfToken(int start) {
            int end = start + 1;
            if (isLetter(bytes[start])) {
                while (end < length && isLetter(bytes[end])) {
                    end++;
                }
            } else if (isFigure(bytes[start])) {
                while (end < length && isFigure(bytes[end])) {
                    end++;
                }
            }
            return end;
        }

        int tokenOf(int start, int end) {
            if (isLetter(bytes[start])) {
                return wordOf(start, end);
            }
            if (isFigure(bytes[start])) {
                return numberOf(start, end);
            }
            return bytes[start] == ';' ? SEMICOLON : NO_TOKEN;
        }

        int numberOf(int start, int end) {
            int last = bytes[end - 1] - '0';
            if (end - start == 1) {
                return last;
            }
            return end - start == 2 ? 10 * (bytes[start] - '0') + last : NO_TOKEN;
        }

        int wordOf(int start, int end) {
            if (spells(start, end, "when")) {
                return WHEN_WORD;
            }
            if (spells(start, end, "give")) {
                return GIVE_WORD;
            }
            if (spells(start, end, "refuse")) {
                return REFUSE_WORD;
            }
            if (spells(start, end, "saying")) {
                return SAYING_WORD;
            }
            if (spells(start, end, "edition")) {
                return EDITION_WORD;
            }
            if (spells(start, end, "try")) {
                return TRY_WORD;
            }
            return spells(start, end, "within") ? WITHIN_WORD : NO_TOKEN;
        }

        boolean spells(int start, int end, String word) {
            if (end - start != word.length()) {
                return false;
            }
            for (int i = start; i < end; i++) {
                if (bytes[i] != word.charAt(i - start)) {
                    return false;
                }
            }
            return true;
        }

        static boolean isLetter(byte b) {
            return b >= 'a' && b <= 'z';
        }

        static boolean isFigure(byte b) {
            return b >= '0' && b <= '9';
        }
    }

    /**
     * Reads the TOKENS into a draft; rows of SAYINGS and EDITIONS are filled beyond those that stand, so
     * that a FAULT leaves nothing. With a FAULT nothing is taken any more: the token stays that has it.
     */
    private static final class Reader {
        final Tape tape;
        final Told told;
        final Ledger draft = new Ledger();
        int at;
        int fault;

        Reader(Tape tape, Told told) {
            this.tape = tape;
            this.told = told;
        }

        int place() {
            return tape.starts[at];
        }

        void readText() {
            draft.become(told.stand);
            at = 0;
            fault = 0;
            for (int turn = 0; turn <= TAPE && fault == 0 && tape.tokens[at] != Tape.END; turn++) {
                switch (tape.tokens[at]) {
                    case Tape.EDITION_WORD: readEdition(); break;
                    case Tape.SAYING_WORD: readSaying(); break;
                    case Tape.TRY_WORD: readTry(); break;
                    case Tape.WITHIN_WORD: readWithin(); break;
                    default: fault = 1;
                }
            }
        }

        void readEdition() {
            at++;
            int service = look(0, SERVICES - 1, 0);
            if (fault == 0 && draft.editions[service] >= EDITIONS) {
                fault = 3;
            }
            if (fault != 0) {
                return;
            }
            at++;
            int[] answers = told.editionOf(service, draft.editions[service]).answers;
            for (int i = 0; i < CASES; i++) {
                answers[i] = 0;
            }
            for (int rule = 0; rule <= RULES && fault == 0 && tape.tokens[at] == Tape.WHEN_WORD; rule++) {
                if (rule == RULES) {
                    fault = 3;
                } else {
                    readRule(answers);
                }
            }
            take(Tape.SEMICOLON);
            answerBy(answers, (1 << CASES) - 1, REFUSED);
            draft.editions[service]++;
        }

        void readRule(int[] answers) {
            at++;
            int from = number(0, ASKS - 1);
            int to = number(from, ASKS - 1);
            int mood = number(0, ANY_MOOD);
            int given = readAnswer();
            if (fault == 0) {
                answerBy(answers, casesOf(from, to, mood), given);
            }
        }

        /** The first rule holds: cases that have an ANSWER keep it. */
        static void answerBy(int[] answers, int cases, int given) {
            for (int i = 0; i < CASES && i < answers.length; i++) {
                if ((cases >> i & 1) != 0 && answers[i] == 0) {
                    answers[i] = given;
                }
            }
        }

        int readAnswer() {
            if (takesRefuse()) {
                return REFUSED;
            }
            int given = 0;
            for (int field = 0; field < FIELDS; field++) {
                given |= 1 << VALUES * field + number(0, LEFT_OUT);
            }
            return given;
        }

        /** Whether 'refuse' is taken; else 'give' is, or has a FAULT. */
        boolean takesRefuse() {
            if (fault == 0 && tape.tokens[at] == Tape.REFUSE_WORD) {
                at++;
                return true;
            }
            take(Tape.GIVE_WORD);
            return false;
        }

        void readSaying() {
            if (draft.sayings >= SAYINGS) {
                fault = 3;
                return;
            }
            at++;
            Saying row = told.sayings[draft.sayings];
            row.caller = number(0, SERVICES - 1);
            row.edition = number(0, EDITIONS - 1);
            row.giver = fresh(SERVICES - 1, 1 << row.caller);
            row.from = number(0, ASKS - 1);
            row.to = number(row.from, ASKS - 1);
            row.mood = number(0, ANY_MOOD);
            row.about = casesOf(row.from, row.to, row.mood);
            readThen(row);
            take(Tape.SEMICOLON);
            draft.sayings++;
        }

        void readThen(Saying row) {
            row.fields = 0;
            row.allowed = REFUSED;
            if (takesRefuse()) {
                return;
            }
            row.allowed = REFUSED - 1;
            for (int turn = 0; turn <= FIELDS && fault == 0 && isNumber(); turn++) {
                readField(row);
            }
        }

        void readField(Saying row) {
            int field = fresh(FIELDS - 1, row.fields);
            int from = number(0, LEFT_OUT - 1);
            int to = number(from, LEFT_OUT - 1);
            int values = number(0, 1) << LEFT_OUT;
            if (fault != 0) {
                return;
            }
            for (int value = from; value <= to; value++) {
                values |= 1 << value;
            }
            row.fields |= 1 << field;
            row.allowed &= ~(FIELD_BITS << VALUES * field) | values << VALUES * field;
        }

        void readTry() {
            at++;
            int caller = number(0, SERVICES - 1);
            int edition = number(0, EDITIONS - 1);
            draft.looks[caller * EDITIONS + edition] |= number(0, (1 << FIELDS) - 1);
            take(Tape.SEMICOLON);
        }

        void readWithin() {
            at++;
            int service = number(0, SERVICES - 1);
            draft.ownHours[service] = number(0, Tape.MOST);
            int named = 1 << service;
            for (int turn = 0; turn < SERVICES && fault == 0 && isNumber(); turn++) {
                named |= 1 << fresh(SERVICES - 1, named);
            }
            draft.calls[service] = named & ~(1 << service);
            take(Tape.SEMICOLON);
        }

        boolean isNumber() {
            return tape.tokens[at] <= Tape.MOST;
        }

        /** The NUMBER that stands here; the least that may, where there is a FAULT. */
        int look(int least, int most, int barred) {
            if (fault != 0) {
                return least;
            }
            int value = tape.tokens[at];
            if (value > Tape.MOST) {
                fault = 1;
                return least;
            }
            if (value < least || value > most || value < SERVICES && (barred >> value & 1) != 0) {
                fault = 2;
                return least;
            }
            return value;
        }

        int number(int least, int most) {
            int value = look(least, most, 0);
            if (fault == 0) {
                at++;
            }
            return value;
        }

        int fresh(int most, int barred) {
            int value = look(0, most, barred);
            if (fault == 0) {
                at++;
            }
            return value;
        }

        void take(int token) {
            if (fault != 0) {
                return;
            }
            if (tape.tokens[at] == token) {
                at++;
            } else {
                fault = 1;
            }
        }
    }
}
