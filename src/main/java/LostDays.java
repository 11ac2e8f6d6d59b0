/**
 * Towns with calendars of kinds, some of which leave out days by order: what day it is where,
 * which contracts quarrel over it, when feasts are, and what else ../shared/DOC.md promises.
 *
 * <p>All room is made by the constructor and used again, so that no call makes an object.
 */
public final class LostDays {
    public static final int BAD = -1, FULL = -2, FINDING = -3, STATE = -4, SPENT = -6, NONE = -9;

    private static final int NOTHING = 1, BEYOND = 2, UNLIKE = 3, NOUGHT = 4, SIZE = 5;

    private static final int PLAIN = 0, LEAPED = 1, CUT = 2, MOON = 3, ORDERED = 4, DOUBLED = 5;
    private static final int KINDS = 6;
    private static final char[] LETTERS = {'c', 'l', 'x', 'm', 'o', 'd'};
    private static final int[] PARENTS = {PLAIN, PLAIN, PLAIN, PLAIN, LEAPED, CUT};
    private static final int[] TIMES_CUT = {0, 0, 1, 0, 1, 2};

    private static final int ROWS = 6, ROW_ROOM = 40;
    private static final int TEXTS = 4, TEXT_ROOM = 60;
    private static final int MISSING = -1;
    private static final int TOWNS = 5, PLACES_TO_KEEP = 3;
    private static final int BLANK = 32, ITEM_SIGNS = 7;

    private static final int LAST_DAY = 19999, DAYS_IN_ALL = 20000, NO_DAY = -1;
    private static final int YEAR_STEP = 1000;
    private static final int YEAR_DAYS = 100, LONG_YEAR_DAYS = 101, MOON_YEAR_DAYS = 98;
    private static final int SECOND_CUT_LATER = 1000;
    private static final int LEAST_LEAP = 2, MOST_LEAP = 9, MOST_GAP = 9, LAST_ORDER = 9999;
    private static final int MOST_YEARS_DUE = 50, LAST_FEAST_YEAR = 150, FEAST_FROM = 20;
    private static final int TWO_MOONS = 59, SECOND_MOON = 29;
    private static final long LOT_FACTOR = 48271L, LOT_MODULUS = 2147483647L;

    private final Row[] rows = new Row[ROWS];
    private final Text[] texts = new Text[TEXTS];
    private final Calendar[] towns = new Calendar[TOWNS];
    private final Kept[] kept = new Kept[PLACES_TO_KEEP];
    private final Calendar trial = new Calendar();
    private final int[] timesFound = new int[SIZE + 1];
    private int townCount = 0;
    private int today = 0;
    private int told = 0;
    private long toldUpper = 0;
    private long toldLower = 1;
    private int latestFinding = 0;

    public LostDays() {
        for (int r = 0; r < ROWS; r++) {
            rows[r] = new Row();
        }
        for (int t = 0; t < TEXTS; t++) {
            texts[t] = new Text();
        }
        for (int c = 0; c < TOWNS; c++) {
            towns[c] = new Calendar();
        }
        for (int k = 0; k < PLACES_TO_KEEP; k++) {
            kept[k] = new Kept();
        }
    }

    // ---- 1 rows, texts, almanacs

    public int row(int r, int n) {
        if (!isRow(r) || n > ROW_ROOM) {
            return BAD;
        }
        if (n < 0) {
            return found(SIZE);
        }
        rows[r].renew(n);
        return n;
    }

    public int lay(int r, int i, int v) {
        int refused = refusedPlace(r, i);
        if (refused != 0) {
            return refused;
        }
        told = rows[r].places[i];
        rows[r].places[i] = v;
        return 1;
    }

    public int at(int r, int i) {
        int refused = refusedPlace(r, i);
        if (refused != 0) {
            return refused;
        }
        told = rows[r].places[i];
        return 1;
    }

    public int tear(int r) {
        int refused = refusedRow(r);
        if (refused != 0) {
            return refused;
        }
        rows[r].size = MISSING;
        return 1;
    }

    public int copy(int r, int i, int to, int j, int n) {
        if (!isRow(r) || !isRow(to)) {
            return BAD;
        }
        if (n < 0) {
            return found(SIZE);
        }
        if (rows[r].size == MISSING || rows[to].size == MISSING) {
            return found(NOTHING);
        }
        if (!rows[r].holds(i, n) || !rows[to].holds(j, n)) {
            return found(BEYOND);
        }
        System.arraycopy(rows[r].places, i, rows[to].places, j, n);
        return 1;
    }

    public int mean(int r) {
        int refused = refusedRow(r);
        if (refused != 0) {
            return refused;
        }
        int size = rows[r].size;
        if (size == 0) {
            return found(NOUGHT);
        }
        told = (int) (rows[r].sum() / size);
        return 1;
    }

    public int text(int t, int n) {
        if (!isText(t) || n > TEXT_ROOM) {
            return BAD;
        }
        if (n < 0) {
            return found(SIZE);
        }
        texts[t].renew(n);
        return n;
    }

    public int put(int t, int i, int v) {
        int refused = refusedText(t);
        if (refused != 0) {
            return refused;
        }
        if (i < 0 || i >= texts[t].size) {
            return found(BEYOND);
        }
        int was = texts[t].signs[i];
        texts[t].signs[i] = (byte) v;
        return was + 1000;
    }

    public int fault(int t) {
        int refused = refusedText(t);
        return refused != 0 ? refused : texts[t].firstFault();
    }

    public int almanac(int t) {
        int refused = refusedText(t);
        if (refused != 0) {
            return refused;
        }
        if (texts[t].firstFault() != NONE) {
            return STATE;
        }
        townCount = texts[t].readInto(towns);
        today = 0;
        for (int k = 0; k < PLACES_TO_KEEP; k++) {
            kept[k].isThere = false;
        }
        return townCount;
    }

    public int town(int c, int what) {
        if (!isTown(c) || what < 0 || what > 4) {
            return BAD;
        }
        told = ofTown(c, what);
        return 1;
    }

    public int mark(int c, int kind) {
        if (!isTown(c) || kind <= PLAIN || kind >= KINDS) {
            return BAD;
        }
        return towns[c].isOf(kind) ? towns[c].markOf(kind, today) : found(UNLIKE);
    }

    public int order(int c, int day) {
        if (!isTown(c) || !isWithin(day, 0, LAST_ORDER)) {
            return BAD;
        }
        int was = towns[c].order;
        towns[c].order = day;
        return was;
    }

    public int gap(int c, int v) {
        if (!isTown(c) || !isWithin(v, 0, MOST_GAP)) {
            return BAD;
        }
        int was = towns[c].gap;
        towns[c].gap = v;
        return was;
    }

    public int leap(int c, int v) {
        if (!isTown(c) || !isLeap(v)) {
            return BAD;
        }
        int was = towns[c].leap;
        towns[c].leap = v;
        return was;
    }

    // ---- 2 today

    public int go(int n) {
        if (!isWithin(n, 0, 9999)) {
            return BAD;
        }
        if (townCount == 0) {
            return STATE;
        }
        if (today + n > LAST_DAY) {
            return SPENT;
        }
        today += n;
        return today;
    }

    public int back(int n) {
        if (!isWithin(n, 0, today)) {
            return BAD;
        }
        today -= n;
        return today;
    }

    public int keep(int k) {
        if (!isPlaceToKeep(k)) {
            return BAD;
        }
        if (townCount == 0) {
            return STATE;
        }
        kept[k].take(towns, today);
        return today;
    }

    public int on(int k) {
        if (!isPlaceToKeep(k)) {
            return BAD;
        }
        if (!kept[k].isThere) {
            return found(NOTHING);
        }
        kept[k].giveBack(towns);
        today = kept[k].today;
        return today;
    }

    // ---- 3 what day it is

    public int date(int c, int day) {
        return isTown(c) && isDay(day) ? towns[c].dateOn(day) : BAD;
    }

    public int day(int c, int date) {
        if (!isTown(c) || date < 0) {
            return BAD;
        }
        int day = towns[c].dayOfDate(date);
        return day == NO_DAY ? found(NOUGHT) : day;
    }

    public int year(int c, int y) {
        if (!isTown(c) || !isWithin(y, 0, 250)) {
            return BAD;
        }
        int length = towns[c].lengthOf(y);
        int days = 0;
        for (int i = 0; i < length; i++) {
            if (towns[c].dayOfDate(YEAR_STEP * y + i) != NO_DAY) {
                days++;
            }
        }
        told = days;
        return length;
    }

    public int same(int c, int date, int d) {
        if (!isTown(c) || !isTown(d) || date < 0) {
            return BAD;
        }
        int day = towns[c].dayOfDate(date);
        return day == NO_DAY ? found(NOUGHT) : towns[d].dateOn(day);
    }

    public int between(int c, int from, int to) {
        if (!isTown(c) || from < 0 || to < 0) {
            return BAD;
        }
        int first = towns[c].dayOfDate(from);
        int second = towns[c].dayOfDate(to);
        if (first == NO_DAY || second == NO_DAY) {
            return found(NOUGHT);
        }
        told = second - first;
        return 1;
    }

    public int where(int day, int date) {
        if (!isDay(day) || date < 0) {
            return BAD;
        }
        int bits = 0;
        for (int c = 0; c < townCount; c++) {
            if (towns[c].dateOn(day) == date) {
                bits |= 1 << c;
            }
        }
        told = bits;
        return Integer.bitCount(bits);
    }

    public int left(int c, int r) {
        if (!isTown(c) || !isRow(r)) {
            return BAD;
        }
        Calendar calendar = towns[c];
        rows[r].renew(0);
        for (int cut = 1; cut <= calendar.timesCut(); cut++) {
            int first = calendar.firstLeftOut(cut);
            for (int i = 0; i < calendar.gap; i++) {
                rows[r].add(calendar.dateOfCount(first + i));
            }
        }
        return rows[r].size;
    }

    public int dates(int c, int from, int to, int r) {
        if (!isTown(c) || !isSpan(from, to) || to - from >= ROW_ROOM || !isRow(r)) {
            return BAD;
        }
        rows[r].renew(0);
        for (int day = from; day <= to; day++) {
            rows[r].add(towns[c].dateOn(day));
        }
        return rows[r].size;
    }

    public int age(int c, int date) {
        if (!isTown(c) || date < 0) {
            return BAD;
        }
        int born = towns[c].dayOfDate(date);
        if (born == NO_DAY) {
            return found(NOUGHT);
        }
        return born > today ? STATE : towns[c].timesAgain(date, today);
    }

    public int eldest(int day) {
        if (!isWithin(day, 0, today)) {
            return BAD;
        }
        int oldest = NONE;
        int most = -1;
        for (int c = 0; c < townCount; c++) {
            int years = towns[c].timesAgain(towns[c].dateOn(day), today);
            if (years > most) {
                most = years;
                oldest = c;
            }
        }
        if (oldest != NONE) {
            told = most;
        }
        return oldest;
    }

    // ---- 4 agreeing

    public int agree(int c, int d, int from, int to) {
        if (!isTown(c) || !isTown(d) || !isSpan(from, to)) {
            return BAD;
        }
        int days = 0;
        int first = NONE;
        int end = from;
        for (int day = from; day <= to; day = Math.max(day, end) + 1) {
            end = Math.min(to, stretchEnd(c, d, day));
            if (haveSameDate(c, d, day)) {
                days += end - day + 1;
                first = first == NONE ? day : first;
            }
        }
        told = first;
        return days;
    }

    public int till(int c, int d) {
        if (!isTown(c) || !isTown(d)) {
            return BAD;
        }
        for (int day = today; day <= LAST_DAY; day = Math.max(day, stretchEnd(c, d, day)) + 1) {
            if (haveSameDate(c, d, day)) {
                return day - today;
            }
        }
        return NONE;
    }

    public int apart(int c, int d, int from, int to) {
        if (!isTown(c) || !isTown(d) || !isSpan(from, to)) {
            return BAD;
        }
        int most = -1;
        int first = from;
        for (int day = from; day <= to; day = Math.max(day, stretchEnd(c, d, day)) + 1) {
            int difference = Math.abs(towns[c].countOn(day) - towns[d].countOn(day));
            if (difference > most) {
                most = difference;
                first = day;
            }
        }
        told = first;
        return most;
    }

    // ---- 5 contracts

    public int due(int c, int date, int years) {
        if (!isTown(c) || date < 0 || !isYearsDue(years)) {
            return BAD;
        }
        int from = towns[c].dayOfDate(date);
        if (from == NO_DAY) {
            return found(NOUGHT);
        }
        told = from + YEAR_DAYS * years;
        int day = towns[c].dayOfDate(date + YEAR_STEP * years);
        return day == NO_DAY ? NONE : day;
    }

    public int quarrels(int r) {
        int refused = refusedContracts(r);
        if (refused != 0) {
            return refused;
        }
        if (hasMissingDate(rows[r])) {
            return found(UNLIKE);
        }
        int many = 0;
        int first = NONE;
        for (int i = 0; i < rows[r].size / 3; i++) {
            if (quarrelsAt(rows[r], i, NONE)) {
                many++;
                first = first == NONE ? i : first;
            }
        }
        told = first;
        return many;
    }

    public int change(int c, int r, int from, int to) {
        if (!isTown(c) || !isRow(r) || !isSpan(from, to) || to > LAST_ORDER || to - from >= 100) {
            return BAD;
        }
        int refused = refusedContracts(r);
        if (refused != 0) {
            return refused;
        }
        trial.becomeLike(towns[c]);
        int fewest = ROW_ROOM;
        int best = from;
        for (int day = from; day <= to; day++) {
            trial.order = day;
            int many = quarrelsOnTrial(rows[r], c);
            if (many < fewest) {
                fewest = many;
                best = day;
            }
        }
        told = fewest;
        return best;
    }

    public int rent(int c, int v, int from, int to) {
        if (!isTown(c) || !isWithin(v, 0, 9999) || !isSpan(from, to) || to - from > 400) {
            return BAD;
        }
        int longDays = 0;
        for (int day = from; day < to; day++) {
            if (towns[c].lengthOf(towns[c].dateOn(day) / YEAR_STEP) == LONG_YEAR_DAYS) {
                longDays++;
            }
        }
        long others = to - from - longDays;
        long length = towns[c].shortLength();
        tellFraction(v * (others * LONG_YEAR_DAYS + longDays * length), length * LONG_YEAR_DAYS);
        return 1;
    }

    // ---- 6 letters, voyages

    public int voyage(int c, int d, int day, int n) {
        if (!isTown(c) || !isTown(d) || !isDay(day) || !isWithin(n, 0, 999)) {
            return BAD;
        }
        if (day + n > LAST_DAY) {
            return SPENT;
        }
        told = towns[d].countOn(day + n) - towns[c].countOn(day);
        return 1;
    }

    public int dated(int date, int from, int to) {
        if (date < 0 || !isSpan(from, to)) {
            return BAD;
        }
        int bits = 0;
        for (int c = 0; c < townCount; c++) {
            int day = towns[c].dayOfDate(date);
            if (day != NO_DAY && day >= from && day <= to) {
                bits |= 1 << c;
            }
        }
        return bits;
    }

    public int kinds(int c, int r) {
        if (!isTown(c)) {
            return BAD;
        }
        int refused = refusedRow(r);
        if (refused != 0) {
            return refused;
        }
        if (rows[r].size % 2 != 0) {
            return found(SIZE);
        }
        if (!areLetters(rows[r])) {
            return found(UNLIKE);
        }
        int bits = 0;
        trial.becomeLike(towns[c]);
        for (int kind = 0; kind < KINDS; kind++) {
            trial.kind = kind;
            if (writesAll(trial, rows[r])) {
                bits |= 1 << kind;
            }
        }
        return bits;
    }

    // ---- 7 feasts, leaps

    public int moon(int day) {
        if (!isDay(day)) {
            return BAD;
        }
        told = daysTillFull(day);
        return told == 0 ? 1 : 0;
    }

    public int feast(int c, int y) {
        return isTown(c) && isFeastYear(y) ? feastOf(towns[c], y) : BAD;
    }

    public int together(int c, int d, int from, int to) {
        if (!isTown(c) || !isTown(d) || !isFeastYear(from) || !isFeastYear(to) || to < from) {
            return BAD;
        }
        int years = 0;
        for (int y = from; y <= to; y++) {
            int feast = feastOf(towns[c], y);
            if (feast != NONE && feast == feastOf(towns[d], y)) {
                years++;
            }
        }
        return years;
    }

    public int keeps(int v, int k, int n) {
        if (!isWithin(v, 0, 99) || !isPartOfDay(k) || !isWithin(n, 1, 150)) {
            return BAD;
        }
        for (int leap = LEAST_LEAP; leap <= MOST_LEAP; leap++) {
            if (firstYearOff(leap, v, k, n) == NONE) {
                return leap;
            }
        }
        return NONE;
    }

    public int fails(int leap, int v, int k) {
        if (!isLeap(leap) || !isWithin(v, 0, 99) || !isPartOfDay(k)) {
            return BAD;
        }
        return firstYearOff(leap, v, k, 150);
    }

    // ---- 8 lots

    public int lots(int c, int d, int n, int seed) {
        if (!isTown(c) || !isTown(d) || !isWithin(n, 1, 40) || !isWithin(seed, 1, 2147483646)) {
            return BAD;
        }
        int many = 0;
        long lot = seed;
        for (int i = 0; i < n; i++) {
            lot = lot * LOT_FACTOR % LOT_MODULUS;
            if (haveSameDate(c, d, (int) (lot % DAYS_IN_ALL))) {
                many++;
            }
        }
        return many;
    }

    // ---- 9 what is told

    public int asked() {
        return told;
    }

    public long upper() {
        return toldUpper;
    }

    public long lower() {
        return toldLower;
    }

    public int count(int what) {
        switch (what) {
            case 0:
                return townCount;
            case 1:
                return today;
            case 2:
                return townsOf(LEAPED);
            case 3:
                return townsOf(CUT);
            case 4:
                return rowsThere();
            case 5:
                return textsThere();
            case 6:
                return almanacsKept();
            default:
                return BAD;
        }
    }

    public int finding() {
        return latestFinding;
    }

    public int findings(int f) {
        return isWithin(f, NOTHING, SIZE) ? timesFound[f] : BAD;
    }

    public long digest() {
        long h = 17;
        for (int what = 0; what <= 6; what++) {
            h = 31 * h + count(what);
        }
        for (int c = 0; c < townCount; c++) {
            for (int what = 0; what <= 4; what++) {
                h = 31 * h + ofTown(c, what);
            }
        }
        for (int k = 0; k < PLACES_TO_KEEP; k++) {
            h = 31 * h + (kept[k].isThere ? kept[k].today : MISSING);
        }
        for (int r = 0; r < ROWS; r++) {
            h = rows[r].digestFrom(h);
        }
        for (int t = 0; t < TEXTS; t++) {
            h = texts[t].digestFrom(h);
        }
        return h;
    }

    // ---- what numbers may be

    private static boolean isWithin(int v, int least, int most) {
        return v >= least && v <= most;
    }

    private static boolean isRow(int r) {
        return r >= 0 && r < ROWS;
    }

    private static boolean isText(int t) {
        return t >= 0 && t < TEXTS;
    }

    private boolean isTown(int c) {
        return c >= 0 && c < townCount;
    }

    private static boolean isPlaceToKeep(int k) {
        return k >= 0 && k < PLACES_TO_KEEP;
    }

    private static boolean isDay(int day) {
        return day >= 0 && day <= LAST_DAY;
    }

    private static boolean isSpan(int from, int to) {
        return isDay(from) && isDay(to) && from <= to;
    }

    private static boolean isLeap(int v) {
        return v >= LEAST_LEAP && v <= MOST_LEAP;
    }

    private static boolean isPartOfDay(int k) {
        return k >= 2 && k <= 9;
    }

    private static boolean isYearsDue(int years) {
        return years >= 0 && years <= MOST_YEARS_DUE;
    }

    private static boolean isFeastYear(int y) {
        return y >= 0 && y <= LAST_FEAST_YEAR;
    }

    // ---- refusals: 0, if there is none

    private int found(int f) {
        latestFinding = f;
        timesFound[f]++;
        return FINDING;
    }

    private int refusedRow(int r) {
        if (!isRow(r)) {
            return BAD;
        }
        return rows[r].size == MISSING ? found(NOTHING) : 0;
    }

    private int refusedPlace(int r, int i) {
        int refused = refusedRow(r);
        if (refused != 0) {
            return refused;
        }
        return rows[r].holds(i, 1) ? 0 : found(BEYOND);
    }

    private int refusedText(int t) {
        if (!isText(t)) {
            return BAD;
        }
        return texts[t].size == MISSING ? found(NOTHING) : 0;
    }

    /** Of contracts all but whether their dates are there: an order on trial may make these missing. */
    private int refusedContracts(int r) {
        int refused = refusedRow(r);
        if (refused != 0) {
            return refused;
        }
        if (rows[r].size % 3 != 0) {
            return found(SIZE);
        }
        int[] places = rows[r].places;
        for (int i = 0; i + 2 < rows[r].size; i += 3) {
            if (!isTown(places[i]) || places[i + 1] < 0 || !isYearsDue(places[i + 2])) {
                return found(UNLIKE);
            }
        }
        return 0;
    }

    // ---- helpers of the calls

    private int ofTown(int c, int what) {
        Calendar calendar = towns[c];
        switch (what) {
            case 0:
                return calendar.kind;
            case 1:
                return calendar.leap;
            case 2:
                return calendar.order;
            case 3:
                return calendar.gap;
            default:
                return calendar.dateOn(today);
        }
    }

    private boolean haveSameDate(int c, int d, int day) {
        return towns[c].dateOn(day) == towns[d].dateOn(day);
    }

    /** Within a stretch two towns' dates go on day by day, so what holds on its first day holds on all. */
    private int stretchEnd(int c, int d, int day) {
        return Math.min(towns[c].stretchEndFrom(day), towns[d].stretchEndFrom(day));
    }

    private boolean hasMissingDate(Row row) {
        for (int i = 0; i + 2 < row.size; i += 3) {
            if (towns[row.places[i]].dayOfDate(row.places[i + 1]) == NO_DAY) {
                return true;
            }
        }
        return false;
    }

    private int quarrelsOnTrial(Row row, int tried) {
        int many = 0;
        for (int i = 0; i < row.size / 3; i++) {
            if (quarrelsAt(row, i, tried)) {
                many++;
            }
        }
        return many;
    }

    /** Whether a contract quarrels, if the calendar on trial is that of the town tried (NONE: of no town). */
    private boolean quarrelsAt(Row row, int i, int tried) {
        int c = row.places[3 * i];
        int date = row.places[3 * i + 1];
        int years = row.places[3 * i + 2];
        Calendar calendar = c == tried ? trial : towns[c];
        int from = calendar.dayOfDate(date);
        if (from == NO_DAY) {
            return true;
        }
        return calendar.dayOfDate(date + YEAR_STEP * years) != from + YEAR_DAYS * years;
    }

    private static boolean areLetters(Row row) {
        for (int i = 0; i + 1 < row.size; i += 2) {
            if (!isDay(row.places[i]) || row.places[i + 1] < 0) {
                return false;
            }
        }
        return true;
    }

    private static boolean writesAll(Calendar calendar, Row row) {
        for (int i = 0; i + 1 < row.size; i += 2) {
            if (calendar.dateOn(row.places[i]) != row.places[i + 1]) {
                return false;
            }
        }
        return true;
    }

    private void tellFraction(long above, long below) {
        long common = commonDivisor(above, below);
        if (common < 1) {
            return;
        }
        toldUpper = above / common;
        toldLower = below / common;
    }

    private static long commonDivisor(long a, long b) {
        long greater = a;
        long rest = b;
        for (int i = 0; i < 100 && rest != 0; i++) {
            long next = greater % rest;
            greater = rest;
            rest = next;
        }
        return greater;
    }

    private static int daysTillFull(int day) {
        int since = day % TWO_MOONS;
        if (since == 0) {
            return 0;
        }
        return since <= SECOND_MOON ? SECOND_MOON - since : TWO_MOONS - since;
    }

    private static int feastOf(Calendar calendar, int y) {
        for (int i = FEAST_FROM; i < calendar.lengthOf(y); i++) {
            int day = calendar.dayOfDate(YEAR_STEP * y + i);
            if (day != NO_DAY) {
                int full = day + daysTillFull(day);
                return full <= LAST_DAY ? full : NONE;
            }
        }
        return NONE;
    }

    /** Counted in k-ths of a day, so that nothing is rounded. */
    private static int firstYearOff(int leap, int v, int k, int lastYear) {
        for (int y = 0; y <= lastYear; y++) {
            if (Math.abs(k * longYearsBefore(y, leap) - y) > v * k) {
                return y;
            }
        }
        return NONE;
    }

    private static int longYearsBefore(int y, int leap) {
        return leap < 1 ? 0 : (y + leap - 1) / leap;
    }

    private int townsOf(int kind) {
        int many = 0;
        for (int c = 0; c < townCount; c++) {
            if (towns[c].isOf(kind)) {
                many++;
            }
        }
        return many;
    }

    private int rowsThere() {
        int many = 0;
        for (int r = 0; r < ROWS; r++) {
            if (rows[r].size != MISSING) {
                many++;
            }
        }
        return many;
    }

    private int textsThere() {
        int many = 0;
        for (int t = 0; t < TEXTS; t++) {
            if (texts[t].size != MISSING) {
                many++;
            }
        }
        return many;
    }

    private int almanacsKept() {
        int many = 0;
        for (int k = 0; k < PLACES_TO_KEEP; k++) {
            if (kept[k].isThere) {
                many++;
            }
        }
        return many;
    }

    /** A calendar of any kind. */
    private static final class Calendar {
        int kind = PLAIN;
        int leap = LEAST_LEAP;
        int order = 0;
        int gap = 0;

        void becomeLike(Calendar other) {
            kind = other.kind;
            leap = other.leap;
            order = other.order;
            gap = other.gap;
        }

        boolean isOf(int wanted) {
            return wanted == PLAIN || kind == wanted || PARENTS[kind] == wanted;
        }

        /** The leap divides where this holds, and only there. */
        boolean hasLeaps() {
            return isOf(LEAPED) && isLeap(leap);
        }

        int timesCut() {
            return TIMES_CUT[kind];
        }

        int cutsBy(int day) {
            int times = timesCut();
            if (times == 0 || day < order) {
                return 0;
            }
            return times == 1 || day < order + SECOND_CUT_LATER ? 1 : 2;
        }

        int dayOfCut(int cut) {
            return cut == 1 ? order : order + SECOND_CUT_LATER;
        }

        int firstLeftOut(int cut) {
            return dayOfCut(cut) + (cut - 1) * gap;
        }

        int countOn(int day) {
            return day + gap * cutsBy(day);
        }

        int dayOfCount(int count) {
            for (int cuts = 0; cuts <= timesCut(); cuts++) {
                int day = count - cuts * gap;
                if (cutsBy(day) == cuts) {
                    return day <= LAST_DAY ? day : NO_DAY;
                }
            }
            return NO_DAY;
        }

        int shortLength() {
            return kind == MOON ? MOON_YEAR_DAYS : YEAR_DAYS;
        }

        int lengthOf(int y) {
            return hasLeaps() && y % leap == 0 ? LONG_YEAR_DAYS : shortLength();
        }

        int startOf(int y) {
            return shortLength() * y + (hasLeaps() ? longYearsBefore(y, leap) : 0);
        }

        int dateOfCount(int count) {
            if (!hasLeaps()) {
                int length = shortLength();
                return YEAR_STEP * (count / length) + count % length;
            }
            int round = YEAR_DAYS * leap + 1;
            int y = count / round * leap;
            int rest = count % round;
            if (rest < LONG_YEAR_DAYS) {
                return YEAR_STEP * y + rest;
            }
            // the first year of a round was the long one
            return YEAR_STEP * (y + (rest - 1) / YEAR_DAYS) + (rest - 1) % YEAR_DAYS;
        }

        int dateOn(int day) {
            return dateOfCount(countOn(day));
        }

        int dayOfDate(int date) {
            if (date < 0) {
                return NO_DAY;
            }
            int y = date / YEAR_STEP;
            int dayOfYear = date % YEAR_STEP;
            return dayOfYear < lengthOf(y) ? dayOfCount(startOf(y) + dayOfYear) : NO_DAY;
        }

        /** The last day till which dates go on one by one: the year's end, or the eve of a cut. */
        int stretchEndFrom(int day) {
            int date = dateOn(day);
            int yearEnd = day + lengthOf(date / YEAR_STEP) - 1 - date % YEAR_STEP;
            int nextCut = cutsBy(day) + 1;
            return nextCut > timesCut() ? yearEnd : Math.min(yearEnd, dayOfCut(nextCut) - 1);
        }

        int timesAgain(int date, int today) {
            int dayOfYear = date % YEAR_STEP;
            int lastYear = dateOn(today) / YEAR_STEP;
            int times = 0;
            for (int y = date / YEAR_STEP + 1; y <= lastYear; y++) {
                int day = dayOfDate(YEAR_STEP * y + dayOfYear);
                if (day != NO_DAY && day <= today) {
                    times++;
                }
            }
            return times;
        }

        int markOf(int wanted, int today) {
            switch (wanted) {
                case LEAPED:
                    return hasLeaps() ? (leap - dateOn(today) / YEAR_STEP % leap) % leap : 0;
                case CUT:
                    return Math.max(0, order - today);
                case MOON:
                    return dateOn(today) / YEAR_STEP + 1;
                case ORDERED:
                    return gap * cutsBy(today);
                default:
                    // a gap of none leaves none out, however often it is ordered
                    return gap == 0 ? 0 : cutsBy(today);
            }
        }
    }

    /** A row of ints, there or missing; its room is made once. */
    private static final class Row {
        final int[] places = new int[ROW_ROOM];
        int size = MISSING;

        void renew(int n) {
            size = n;
            for (int i = 0; i < ROW_ROOM; i++) {
                places[i] = 0;
            }
        }

        void add(int v) {
            if (size >= 0 && size < ROW_ROOM) {
                places[size] = v;
                size++;
            }
        }

        boolean holds(int i, int n) {
            return i >= 0 && n <= size - i;
        }

        long sum() {
            long sum = 0;
            for (int i = 0; i < size; i++) {
                sum += places[i];
            }
            return sum;
        }

        long digestFrom(long start) {
            long h = 31 * start + size;
            for (int i = 0; i < size; i++) {
                h = 31 * h + places[i];
            }
            return h;
        }
    }

    /** A text in which an almanac may be written; its room is made once. */
    private static final class Text {
        final byte[] signs = new byte[TEXT_ROOM];
        int size = MISSING;

        void renew(int n) {
            size = n;
            for (int i = 0; i < TEXT_ROOM; i++) {
                signs[i] = BLANK;
            }
        }

        int firstFault() {
            int items = 0;
            for (int i = 0; i < size; i++) {
                if (signs[i] != BLANK) {
                    int place = items == TOWNS ? i : faultOfItem(i);
                    if (place != NONE) {
                        return place;
                    }
                    items++;
                    i += ITEM_SIGNS - 1;
                }
            }
            return NONE;
        }

        int faultOfItem(int start) {
            for (int i = start; i < start + ITEM_SIGNS; i++) {
                if (i >= size) {
                    return size;
                }
                if (!fits(signs[i], i - start)) {
                    return i;
                }
            }
            return NONE;
        }

        static boolean fits(int sign, int placeOfItem) {
            if (placeOfItem == 0) {
                return kindOf(sign) != NONE;
            }
            int figure = sign - '0';
            return placeOfItem == 1 ? isLeap(figure) : figure >= 0 && figure <= 9;
        }

        static int kindOf(int letter) {
            for (int kind = 0; kind < KINDS; kind++) {
                if (LETTERS[kind] == letter) {
                    return kind;
                }
            }
            return NONE;
        }

        /** Reads a text without a fault; answers how many calendars it has. */
        int readInto(Calendar[] calendars) {
            int items = 0;
            for (int i = 0; i + ITEM_SIGNS <= size && items < calendars.length; i++) {
                if (signs[i] != BLANK) {
                    readItem(i, calendars[items]);
                    items++;
                    i += ITEM_SIGNS - 1;
                }
            }
            return items;
        }

        void readItem(int i, Calendar calendar) {
            calendar.kind = Math.max(PLAIN, kindOf(signs[i]));
            calendar.leap = signs[i + 1] - '0';
            calendar.order = 0;
            for (int j = 2; j <= 5; j++) {
                calendar.order = 10 * calendar.order + signs[i + j] - '0';
            }
            calendar.gap = signs[i + 6] - '0';
        }

        long digestFrom(long start) {
            long h = 31 * start + size;
            for (int i = 0; i < size; i++) {
                h = 31 * h + signs[i];
            }
            return h;
        }
    }

    /** What may change of an almanac, as it was when it was kept. */
    private static final class Kept {
        final int[] leaps = new int[TOWNS];
        final int[] orders = new int[TOWNS];
        final int[] gaps = new int[TOWNS];
        boolean isThere = false;
        int today = 0;

        void take(Calendar[] calendars, int day) {
            isThere = true;
            today = day;
            for (int c = 0; c < TOWNS && c < calendars.length; c++) {
                leaps[c] = calendars[c].leap;
                orders[c] = calendars[c].order;
                gaps[c] = calendars[c].gap;
            }
        }

        void giveBack(Calendar[] calendars) {
            for (int c = 0; c < TOWNS && c < calendars.length; c++) {
                calendars[c].leap = leaps[c];
                calendars[c].order = orders[c];
                calendars[c].gap = gaps[c];
            }
        }
    }
}
