import java.math.BigInteger;
import java.util.ArrayList;
import java.util.Arrays;
import java.util.Collections;
import java.util.HashMap;
import java.util.List;
import java.util.Map;
import java.util.regex.Matcher;
import java.util.regex.Pattern;

/**
 * The document once more, as plainly and slowly as can be, for ModelTest: a calendar is a table that is
 * filled day by day, and every question is answered by looking at all days in question.
 */
public final class Model {
    static final int BAD = -1, FINDING = -3, STATE = -4, SPENT = -6, NONE = -9;
    static final int NOTHING = 1, BEYOND = 2, UNLIKE = 3, NOUGHT = 4, SIZE = 5;

    record Calendar(int kind, int leap, int order, int gap) {
        boolean leaped() {
            return kind == 1 || kind == 4;
        }

        boolean cut() {
            return kind == 2 || kind == 5;
        }

        int length(int y) {
            return kind == 3 ? 98 : leaped() && y % leap == 0 ? 101 : 100;
        }
    }

    record Almanac(int today, List<Calendar> towns) {
    }

    /** Of each day the count and the date, of each date the day (-1: none), and the dates left out. */
    static final class Table {
        final int[] counts = new int[20000];
        final int[] dates = new int[20000];
        final int[] days = new int[260000];
        final List<Integer> left = new ArrayList<>();

        Table(Calendar c) {
            int count = 0;
            int[] dateOfCount = new int[20100];
            for (int y = 0, n = 0; n < dateOfCount.length; y++) {
                for (int d = 0; d < c.length(y) && n < dateOfCount.length; d++) {
                    dateOfCount[n++] = 1000 * y + d;
                }
            }
            Arrays.fill(days, -1);
            for (int day = 0; day < 20000; day++) {
                boolean first = (c.cut() || c.kind == 4) && day == c.order;
                boolean second = c.kind == 5 && day == c.order + 1000;
                for (int i = 0; i < c.gap && (first || second); i++) {
                    left.add(dateOfCount[count++]);
                }
                counts[day] = count;
                dates[day] = dateOfCount[count];
                days[dateOfCount[count]] = day;
                count++;
            }
        }

        int dayOf(int date) {
            return date >= 0 && date < days.length ? days[date] : -1;
        }
    }

    private final Map<Calendar, Table> tables = new HashMap<>();
    private final List<List<Integer>> rows = new ArrayList<>(Collections.nCopies(6, null));
    private final byte[][] texts = new byte[4][];
    private final Almanac[] kept = new Almanac[3];
    private Almanac now = new Almanac(0, List.of());
    private int asked = 0;
    private BigInteger upper = BigInteger.ZERO;
    private BigInteger lower = BigInteger.ONE;
    private int finding = 0;
    private final int[] findings = new int[6];

    Table table(Calendar c) {
        if (tables.size() > 120) {
            tables.clear();
        }
        return tables.computeIfAbsent(c, Table::new);
    }

    Table table(int c) {
        return table(now.towns.get(c));
    }

    int towns() {
        return now.towns.size();
    }

    private int found(int f) {
        finding = f;
        findings[f]++;
        return FINDING;
    }

    private int told(int v, int answer) {
        asked = v;
        return answer;
    }

    private static boolean out(int v, int least, int most) {
        return v < least || v > most;
    }

    private boolean noTown(int... cs) {
        return Arrays.stream(cs).anyMatch(c -> out(c, 0, towns() - 1));
    }

    private static boolean noDays(int from, int to) {
        return out(from, 0, 19999) || out(to, 0, 19999) || to < from;
    }

    public int row(int r, int n) {
        if (out(r, 0, 5) || n > 40) return BAD;
        if (n < 0) return found(SIZE);
        rows.set(r, new ArrayList<>(Collections.nCopies(n, 0)));
        return n;
    }

    public int lay(int r, int i, int v) {
        if (out(r, 0, 5)) return BAD;
        if (rows.get(r) == null) return found(NOTHING);
        if (out(i, 0, rows.get(r).size() - 1)) return found(BEYOND);
        return told(rows.get(r).set(i, v), 1);
    }

    public int at(int r, int i) {
        if (out(r, 0, 5)) return BAD;
        if (rows.get(r) == null) return found(NOTHING);
        if (out(i, 0, rows.get(r).size() - 1)) return found(BEYOND);
        return told(rows.get(r).get(i), 1);
    }

    public int tear(int r) {
        if (out(r, 0, 5)) return BAD;
        if (rows.get(r) == null) return found(NOTHING);
        rows.set(r, null);
        return 1;
    }

    public int copy(int r, int i, int to, int j, int n) {
        if (out(r, 0, 5) || out(to, 0, 5)) return BAD;
        if (n < 0) return found(SIZE);
        if (rows.get(r) == null || rows.get(to) == null) return found(NOTHING);
        if (i < 0 || j < 0 || (long) i + n > rows.get(r).size() || (long) j + n > rows.get(to).size()) return found(BEYOND);
        List<Integer> taken = new ArrayList<>(rows.get(r).subList(i, i + n));
        for (int k = 0; k < n; k++) rows.get(to).set(j + k, taken.get(k));
        return 1;
    }

    public int mean(int r) {
        if (out(r, 0, 5)) return BAD;
        if (rows.get(r) == null) return found(NOTHING);
        if (rows.get(r).isEmpty()) return found(NOUGHT);
        long sum = rows.get(r).stream().mapToLong(v -> v).sum();
        return told((int) (sum / rows.get(r).size()), 1);
    }

    public int text(int t, int n) {
        if (out(t, 0, 3) || n > 60) return BAD;
        if (n < 0) return found(SIZE);
        texts[t] = new byte[n];
        Arrays.fill(texts[t], (byte) 32);
        return n;
    }

    public int put(int t, int i, int v) {
        if (out(t, 0, 3)) return BAD;
        if (texts[t] == null) return found(NOTHING);
        if (out(i, 0, texts[t].length - 1)) return found(BEYOND);
        int was = texts[t][i];
        texts[t][i] = (byte) v;
        return was + 1000;
    }

    private String read(int t) {
        StringBuilder s = new StringBuilder();
        for (byte b : texts[t]) s.append((char) (b & 255));
        return s.toString();
    }

    /** The longest beginning that some almanac has ends just ahead of the fault. */
    private static int faultOf(String s) {
        String item = "[clxmod][2-9][0-9]{4}[0-9]";
        if (s.matches(" *(" + item + " *){0,5}")) return NONE;
        String begun = "([clxmod]([2-9][0-9]{0,5})?)?";
        for (int n = s.length(); n >= 0; n--) {
            String head = s.substring(0, n);
            if (head.matches(" *(" + item + " *){0,4}" + begun) || head.matches(" *(" + item + " *){0,5}")) return n;
        }
        return 0;
    }

    public int fault(int t) {
        if (out(t, 0, 3)) return BAD;
        if (texts[t] == null) return found(NOTHING);
        return faultOf(read(t));
    }

    public int almanac(int t) {
        if (out(t, 0, 3)) return BAD;
        if (texts[t] == null) return found(NOTHING);
        if (faultOf(read(t)) != NONE) return STATE;
        List<Calendar> list = new ArrayList<>();
        Matcher m = Pattern.compile("([a-z])([0-9])([0-9]{4})([0-9])").matcher(read(t));
        while (m.find()) {
            list.add(new Calendar("clxmod".indexOf(m.group(1)), Integer.parseInt(m.group(2)),
                    Integer.parseInt(m.group(3)), Integer.parseInt(m.group(4))));
        }
        now = new Almanac(0, list);
        Arrays.fill(kept, null);
        return list.size();
    }

    private int of(int c, int what) {
        Calendar k = now.towns.get(c);
        return new int[] {k.kind, k.leap, k.order, k.gap, table(c).dates[now.today]}[what];
    }

    public int town(int c, int what) {
        return noTown(c) || out(what, 0, 4) ? BAD : told(of(c, what), 1);
    }

    public int mark(int c, int kind) {
        if (noTown(c) || out(kind, 1, 5)) return BAD;
        Calendar k = now.towns.get(c);
        boolean is = k.kind == kind || kind == 1 && k.leaped() || kind == 2 && k.cut();
        if (!is) return found(UNLIKE);
        Table table = table(k);
        int year = table.dates[now.today] / 1000;
        int n = 0;
        switch (kind) {
            case 1:
                while (k.length(year + n) != 101) n++;
                return n;
            case 2:
                while (now.today + n < k.order) n++;
                return n;
            case 3:
                return year + 1;
            case 4:
                return table.counts[now.today] - now.today;
            default:
                for (int day = 0; day <= now.today; day++) {
                    if (table.counts[day] - (day == 0 ? -1 : table.counts[day - 1]) > 1) n++;
                }
                return n;
        }
    }

    private void set(int c, Calendar k) {
        List<Calendar> list = new ArrayList<>(now.towns);
        list.set(c, k);
        now = new Almanac(now.today, list);
    }

    public int order(int c, int day) {
        if (noTown(c) || out(day, 0, 9999)) return BAD;
        Calendar k = now.towns.get(c);
        set(c, new Calendar(k.kind, k.leap, day, k.gap));
        return k.order;
    }

    public int gap(int c, int v) {
        if (noTown(c) || out(v, 0, 9)) return BAD;
        Calendar k = now.towns.get(c);
        set(c, new Calendar(k.kind, k.leap, k.order, v));
        return k.gap;
    }

    public int leap(int c, int v) {
        if (noTown(c) || out(v, 2, 9)) return BAD;
        Calendar k = now.towns.get(c);
        set(c, new Calendar(k.kind, v, k.order, k.gap));
        return k.leap;
    }

    public int go(int n) {
        if (out(n, 0, 9999)) return BAD;
        if (towns() == 0) return STATE;
        if (now.today + n > 19999) return SPENT;
        now = new Almanac(now.today + n, now.towns);
        return now.today;
    }

    public int back(int n) {
        if (n < 0 || n > now.today) return BAD;
        now = new Almanac(now.today - n, now.towns);
        return now.today;
    }

    public int keep(int k) {
        if (out(k, 0, 2)) return BAD;
        if (towns() == 0) return STATE;
        kept[k] = now;
        return now.today;
    }

    public int on(int k) {
        if (out(k, 0, 2)) return BAD;
        if (kept[k] == null) return found(NOTHING);
        now = kept[k];
        return now.today;
    }

    public int date(int c, int day) {
        return noTown(c) || out(day, 0, 19999) ? BAD : table(c).dates[day];
    }

    public int day(int c, int date) {
        if (noTown(c) || date < 0) return BAD;
        return table(c).dayOf(date) < 0 ? found(NOUGHT) : table(c).dayOf(date);
    }

    public int year(int c, int y) {
        if (noTown(c) || out(y, 0, 250)) return BAD;
        int n = 0;
        for (int date : table(c).dates) n += date / 1000 == y ? 1 : 0;
        return told(n, now.towns.get(c).length(y));
    }

    public int same(int c, int date, int d) {
        if (noTown(c, d) || date < 0) return BAD;
        return table(c).dayOf(date) < 0 ? found(NOUGHT) : table(d).dates[table(c).dayOf(date)];
    }

    public int between(int c, int from, int to) {
        if (noTown(c) || from < 0 || to < 0) return BAD;
        int a = table(c).dayOf(from);
        int b = table(c).dayOf(to);
        return a < 0 || b < 0 ? found(NOUGHT) : told(b - a, 1);
    }

    public int where(int day, int date) {
        if (out(day, 0, 19999) || date < 0) return BAD;
        int n = 0;
        int bits = 0;
        for (int c = 0; c < towns(); c++) {
            if (table(c).dates[day] == date) {
                n++;
                bits += 1 << c;
            }
        }
        return told(bits, n);
    }

    public int left(int c, int r) {
        if (noTown(c) || out(r, 0, 5)) return BAD;
        rows.set(r, new ArrayList<>(table(c).left));
        return rows.get(r).size();
    }

    public int dates(int c, int from, int to, int r) {
        if (noTown(c) || out(r, 0, 5) || noDays(from, to) || to - from + 1 > 40) return BAD;
        List<Integer> list = new ArrayList<>();
        for (int day = from; day <= to; day++) list.add(table(c).dates[day]);
        rows.set(r, list);
        return list.size();
    }

    private int ageBy(Table table, int born) {
        int n = 0;
        for (int day = born + 1; day <= now.today; day++) {
            if (table.dates[day] % 1000 == table.dates[born] % 1000) n++;
        }
        return n;
    }

    public int age(int c, int date) {
        if (noTown(c) || date < 0) return BAD;
        int born = table(c).dayOf(date);
        if (born < 0) return found(NOUGHT);
        return born > now.today ? STATE : ageBy(table(c), born);
    }

    public int eldest(int day) {
        if (out(day, 0, now.today)) return BAD;
        if (towns() == 0) return NONE;
        List<Integer> ages = new ArrayList<>();
        for (int c = 0; c < towns(); c++) ages.add(ageBy(table(c), day));
        int most = Collections.max(ages);
        return told(most, ages.indexOf(most));
    }

    public int agree(int c, int d, int from, int to) {
        if (noTown(c, d) || noDays(from, to)) return BAD;
        int n = 0;
        int first = NONE;
        for (int day = to; day >= from; day--) {
            if (table(c).dates[day] == table(d).dates[day]) {
                n++;
                first = day;
            }
        }
        return told(first, n);
    }

    public int till(int c, int d) {
        if (noTown(c, d)) return BAD;
        for (int n = 0; now.today + n <= 19999; n++) {
            if (table(c).dates[now.today + n] == table(d).dates[now.today + n]) return n;
        }
        return NONE;
    }

    public int apart(int c, int d, int from, int to) {
        if (noTown(c, d) || noDays(from, to)) return BAD;
        int most = 0;
        int first = to;
        for (int day = to; day >= from; day--) {
            int v = Math.abs(table(c).counts[day] - table(d).counts[day]);
            if (v >= most) {
                most = v;
                first = day;
            }
        }
        return told(first, most);
    }

    public int due(int c, int date, int years) {
        if (noTown(c) || date < 0 || out(years, 0, 50)) return BAD;
        int day = table(c).dayOf(date);
        if (day < 0) return found(NOUGHT);
        int later = table(c).dayOf(date + 1000 * years);
        return told(day + 100 * years, later < 0 ? NONE : later);
    }

    private boolean quarrel(Table table, int date, int years) {
        int day = table.dayOf(date);
        return day < 0 || table.dayOf(date + 1000 * years) != day + 100 * years;
    }

    private int contracts(int r, boolean dated) {
        List<Integer> row = rows.get(r);
        if (row == null) return found(NOTHING);
        if (row.size() % 3 != 0) return found(SIZE);
        for (int i = 0; i < row.size(); i += 3) {
            boolean wrong = noTown(row.get(i)) || row.get(i + 1) < 0 || out(row.get(i + 2), 0, 50);
            if (wrong || dated && table(row.get(i)).dayOf(row.get(i + 1)) < 0) return found(UNLIKE);
        }
        return 0;
    }

    public int quarrels(int r) {
        if (out(r, 0, 5)) return BAD;
        int refused = contracts(r, true);
        if (refused != 0) return refused;
        List<Integer> row = rows.get(r);
        List<Integer> numbers = new ArrayList<>();
        for (int i = 0; i < row.size(); i += 3) {
            if (quarrel(table(row.get(i)), row.get(i + 1), row.get(i + 2))) numbers.add(i / 3);
        }
        return told(numbers.isEmpty() ? NONE : numbers.get(0), numbers.size());
    }

    public int change(int c, int r, int from, int to) {
        if (noTown(c) || out(r, 0, 5) || noDays(from, to) || to > 9999 || to - from + 1 > 100) return BAD;
        int refused = contracts(r, false);
        if (refused != 0) return refused;
        List<Integer> row = rows.get(r);
        Almanac before = now;
        int best = 0;
        int fewest = Integer.MAX_VALUE;
        for (int day = from; day <= to; day++) {
            order(c, day);
            int n = 0;
            for (int i = 0; i < row.size(); i += 3) {
                if (quarrel(table(row.get(i)), row.get(i + 1), row.get(i + 2))) n++;
            }
            if (n < fewest) {
                fewest = n;
                best = day;
            }
        }
        now = before;
        return told(fewest, best);
    }

    public int rent(int c, int v, int from, int to) {
        if (noTown(c) || out(v, 0, 9999) || noDays(from, to) || to - from > 400) return BAD;
        BigInteger sum = BigInteger.ZERO;
        BigInteger below = BigInteger.ONE;
        for (int day = from; day < to; day++) {
            BigInteger length = BigInteger.valueOf(now.towns.get(c).length(table(c).dates[day] / 1000));
            sum = sum.multiply(length).add(below.multiply(BigInteger.valueOf(v)));
            below = below.multiply(length);
            BigInteger common = sum.gcd(below);
            sum = sum.divide(common);
            below = below.divide(common);
        }
        upper = sum;
        lower = below;
        return 1;
    }

    public int voyage(int c, int d, int day, int n) {
        if (noTown(c, d) || out(day, 0, 19999) || out(n, 0, 999)) return BAD;
        if (day + n > 19999) return SPENT;
        return told(table(d).counts[day + n] - table(c).counts[day], 1);
    }

    public int dated(int date, int from, int to) {
        if (date < 0 || noDays(from, to)) return BAD;
        int bits = 0;
        for (int c = 0; c < towns(); c++) {
            for (int day = from; day <= to; day++) {
                if (table(c).dates[day] == date) bits |= 1 << c;
            }
        }
        return bits;
    }

    public int kinds(int c, int r) {
        if (noTown(c) || out(r, 0, 5)) return BAD;
        List<Integer> row = rows.get(r);
        if (row == null) return found(NOTHING);
        if (row.size() % 2 == 1) return found(SIZE);
        for (int i = 0; i < row.size(); i += 2) {
            if (out(row.get(i), 0, 19999) || row.get(i + 1) < 0) return found(UNLIKE);
        }
        Calendar k = now.towns.get(c);
        int bits = 0;
        for (int kind = 0; kind < 6; kind++) {
            Table table = table(new Calendar(kind, k.leap, k.order, k.gap));
            boolean fits = true;
            for (int i = 0; i < row.size(); i += 2) fits &= table.dates[row.get(i)] == row.get(i + 1);
            bits += fits ? 1 << kind : 0;
        }
        return bits;
    }

    private static boolean isFull(int day) {
        return day % 59 == 0 || day % 59 == 29;
    }

    public int moon(int day) {
        if (out(day, 0, 19999)) return BAD;
        int n = 0;
        while (!isFull(day + n)) n++;
        return told(n, n == 0 ? 1 : 0);
    }

    public int feast(int c, int y) {
        if (noTown(c) || out(y, 0, 150)) return BAD;
        for (int day = 0; day < 20000; day++) {
            int date = table(c).dates[day];
            if (date / 1000 == y && date % 1000 >= 20) {
                while (!isFull(day)) day++;
                return day;
            }
        }
        return NONE;
    }

    public int together(int c, int d, int from, int to) {
        if (noTown(c, d) || out(from, 0, 150) || out(to, 0, 150) || to < from) return BAD;
        int n = 0;
        for (int y = from; y <= to; y++) n += feast(c, y) == feast(d, y) ? 1 : 0;
        return n;
    }

    private static boolean isOff(int leap, int v, int k, int y) {
        int count = 0;
        for (int i = 0; i < y; i++) count += new Calendar(1, leap, 0, 0).length(i);
        return Math.abs(k * count - y * (100 * k + 1)) > v * k;
    }

    public int keeps(int v, int k, int n) {
        if (out(v, 0, 99) || out(k, 2, 9) || out(n, 1, 150)) return BAD;
        for (int leap = 2; leap <= 9; leap++) {
            boolean ever = false;
            for (int y = 0; y <= n; y++) ever |= isOff(leap, v, k, y);
            if (!ever) return leap;
        }
        return NONE;
    }

    public int fails(int leap, int v, int k) {
        if (out(leap, 2, 9) || out(v, 0, 99) || out(k, 2, 9)) return BAD;
        for (int y = 0; y <= 150; y++) {
            if (isOff(leap, v, k, y)) return y;
        }
        return NONE;
    }

    public int lots(int c, int d, int n, int seed) {
        if (noTown(c, d) || out(n, 1, 40) || out(seed, 1, 2147483646)) return BAD;
        int many = 0;
        BigInteger lot = BigInteger.valueOf(seed);
        for (int i = 0; i < n; i++) {
            lot = lot.multiply(BigInteger.valueOf(48271)).mod(BigInteger.valueOf(2147483647));
            int day = lot.mod(BigInteger.valueOf(20000)).intValue();
            many += table(c).dates[day] == table(d).dates[day] ? 1 : 0;
        }
        return many;
    }

    public int asked() {
        return asked;
    }

    public long upper() {
        return upper.longValueExact();
    }

    public long lower() {
        return lower.longValueExact();
    }

    public int count(int what) {
        switch (what) {
            case 0:
                return towns();
            case 1:
                return now.today;
            case 2:
                return (int) now.towns.stream().filter(Calendar::leaped).count();
            case 3:
                return (int) now.towns.stream().filter(Calendar::cut).count();
            case 4:
                return (int) rows.stream().filter(r -> r != null).count();
            case 5:
                return (int) Arrays.stream(texts).filter(t -> t != null).count();
            case 6:
                return (int) Arrays.stream(kept).filter(a -> a != null).count();
            default:
                return BAD;
        }
    }

    public int finding() {
        return finding;
    }

    public int findings(int f) {
        return out(f, 1, 5) ? BAD : findings[f];
    }

    public long digest() {
        List<Integer> all = new ArrayList<>();
        for (int what = 0; what <= 6; what++) all.add(count(what));
        for (int c = 0; c < towns(); c++) {
            for (int what = 0; what <= 4; what++) all.add(of(c, what));
        }
        for (Almanac a : kept) all.add(a == null ? -1 : a.today);
        for (List<Integer> row : rows) {
            all.add(row == null ? -1 : row.size());
            if (row != null) all.addAll(row);
        }
        for (byte[] text : texts) {
            all.add(text == null ? -1 : text.length);
            for (int i = 0; text != null && i < text.length; i++) all.add((int) text[i]);
        }
        long h = 17;
        for (int v : all) h = 31 * h + v;
        return h;
    }
}
