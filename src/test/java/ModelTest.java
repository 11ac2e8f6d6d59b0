import java.util.ArrayList;
import java.util.List;
import java.util.Random;

/** Runs of calls by lots, the same ones on the class and on the model; after each all that is told is looked at. */
public final class ModelTest {
    /** Of each call what its numbers are; a letter stands for a way to draw one (see number()). */
    private static final String[] CALLS = {"row rn", "lay riv", "at ri", "tear r", "copy rjrjj", "mean r", "text tn",
        "put tib", "fault t", "almanac t", "town cw", "mark cK", "order cO", "gap cg", "leap cl", "go G", "back B",
        "keep p", "on p", "date cD", "day cE", "year cy", "same cEc", "between cEE", "where DE", "left cr", "dates cUr",
        "age cA", "eldest B", "agree ccS", "till cc", "apart ccS", "due cEY", "quarrels r", "change crT", "rent cRQ",
        "voyage ccDV", "dated ES", "kinds cr", "moon D", "feast cf", "together ccF", "keeps VkN", "fails lVk", "lots cczs",
        "asked ", "upper ", "lower ", "count w", "finding ", "findings w", "digest "};

    private static Random lots;
    private static LostDays real;
    private static Model model;
    private static String trace;
    private static int calls;

    public static void main(String[] args) {
        int runs = args.length > 0 ? Integer.parseInt(args[0]) : 80;
        int start = args.length > 1 ? Integer.parseInt(args[1]) : 1;
        for (int run = start; run < start + runs; run++) {
            run(run);
        }
        Check.end();
    }

    private static void run(int seed) {
        lots = new Random(seed);
        real = new LostDays();
        model = new Model();
        trace = "";
        calls = 0;
        if (lots.nextInt(10) > 0) {
            writeAlmanac();
        }
        while (calls < 450) {
            int what = lots.nextInt(40);
            if (what == 0 && lots.nextInt(5) == 0 || model.towns() == 0 && lots.nextInt(8) == 0) {
                writeAlmanac();
            } else if (what <= 2) {
                writeContracts();
            } else if (what <= 3) {
                writeLetters();
            } else {
                String[] call = CALLS[lots.nextInt(CALLS.length)].split(" ", -1);
                call(call[0], numbers(call[1]));
            }
        }
    }

    private static void call(String name, int... numbers) {
        calls++;
        String call = Call.told(name, numbers);
        trace += call + " ";
        long want = Call.answer(model, name, numbers);
        long got = Call.answer(real, name, numbers);
        if (got != want) {
            System.out.println(trace);
        }
        Check.due(call, got, want);
        Check.due(call + ", asked()", real.asked(), model.asked());
        Check.due(call + ", upper()", real.upper(), model.upper());
        Check.due(call + ", lower()", real.lower(), model.lower());
        Check.due(call + ", finding()", real.finding(), model.finding());
        for (int f = 1; f <= 5; f++) {
            Check.due(call + ", findings(" + f + ")", real.findings(f), model.findings(f));
        }
        Check.due(call + ", digest()", real.digest(), model.digest());
    }

    private static void writeAlmanac() {
        StringBuilder s = new StringBuilder(" ".repeat(lots.nextInt(3)));
        int towns = lots.nextInt(12) == 0 ? lots.nextInt(8) : 2 + lots.nextInt(4);
        for (int i = 0; i < towns; i++) {
            int order = lots.nextInt(3) == 0 ? lots.nextInt(10000) : lots.nextInt(1000);
            s.append("clxmod".charAt(lots.nextInt(6))).append(2 + lots.nextInt(8));
            s.append(String.format("%04d", order)).append(lots.nextInt(10)).append(" ".repeat(lots.nextInt(2)));
        }
        if (lots.nextInt(6) == 0 && s.length() > 0) {
            s.setCharAt(lots.nextInt(s.length()), "clxmod0123456789 ?".charAt(lots.nextInt(18)));
        }
        if (lots.nextInt(10) == 0) {
            s.setLength(lots.nextInt(s.length() + 1));
        }
        if (s.length() > 60) {
            s.setLength(60);
        }
        int t = lots.nextInt(4);
        call("text", t, s.length());
        for (int i = 0; i < s.length(); i++) {
            if (s.charAt(i) != ' ') {
                call("put", t, i, s.charAt(i));
            }
        }
        call("fault", t);
        call("almanac", t);
    }

    private static void writeContracts() {
        int r = lots.nextInt(6);
        int many = lots.nextInt(6);
        List<Integer> row = new ArrayList<>();
        for (int i = 0; i < many; i++) {
            int c = number('c');
            row.add(c);
            row.add(lots.nextInt(25) == 0 ? number('E') : someDate(c));
            row.add(lots.nextInt(3) == 0 ? number('Y') : lots.nextInt(4));
        }
        writeRow(r, row);
        call("quarrels", r);
        int[] span = span(9999, 100);
        call("change", number('c'), r, span[0], span[1]);
    }

    private static void writeLetters() {
        int r = lots.nextInt(6);
        int c = number('c');
        int many = lots.nextInt(4);
        List<Integer> row = new ArrayList<>();
        for (int i = 0; i < many; i++) {
            int day = lots.nextInt(30) == 0 ? number('D') : someDay();
            row.add(day);
            boolean isWritten = c >= 0 && c < model.towns() && day >= 0 && day < 20000 && lots.nextInt(12) > 0;
            row.add(isWritten ? model.table(c).dates[day] : number('E'));
        }
        writeRow(r, row);
        call("kinds", c, r);
        call("kinds", number('c'), r);
    }

    private static void writeRow(int r, List<Integer> row) {
        call("row", r, row.size());
        for (int i = 0; i < row.size(); i++) {
            call("lay", r, i, row.get(i));
        }
    }

    private static int[] numbers(String letters) {
        List<Integer> list = new ArrayList<>();
        for (char letter : letters.toCharArray()) {
            if ("STFUQ".indexOf(letter) >= 0) {
                int[] span = span(letter);
                list.add(span[0]);
                list.add(span[1]);
            } else {
                list.add(number(letter));
            }
        }
        return list.stream().mapToInt(v -> v).toArray();
    }

    private static int[] span(char letter) {
        switch (letter) {
            case 'S': return span(19999, 20000);
            case 'T': return span(9999, 100);
            case 'U': return span(19999, 40);
            case 'Q': return span(19999, 400);
            default: return span(150, 151);
        }
    }

    private static int number(char letter) {
        if (lots.nextInt(60) == 0) {
            return new int[] {-1, Integer.MIN_VALUE, Integer.MAX_VALUE, -5, 20000, 10000}[lots.nextInt(6)];
        }
        switch (letter) {
            case 'r': return lots.nextInt(20) == 0 ? 6 : lots.nextInt(6);
            case 't': return lots.nextInt(20) == 0 ? 4 : lots.nextInt(4);
            case 'n': return lots.nextInt(4) == 0 ? lots.nextInt(64) - 1 : lots.nextInt(13);
            case 'i': return lots.nextInt(3) == 0 ? lots.nextInt(42) - 1 : lots.nextInt(8);
            case 'v': return lots.nextInt(3) == 0 ? lots.nextInt() : lots.nextInt(2000) - 1000;
            case 'j': return lots.nextInt(5);
            case 'b': return lots.nextInt(3) == 0 ? lots.nextInt(700) - 350 : 32 + lots.nextInt(96);
            case 'c': return lots.nextInt(25) == 0 ? lots.nextInt(7) - 1 : lots.nextInt(Math.max(1, model.towns()));
            case 'K': return lots.nextInt(10) == 0 ? lots.nextInt(8) - 1 : 1 + lots.nextInt(5);
            case 'B': return lots.nextInt(model.count(1) + 2);
            case 'A': return bornDate(number('c'));
            case 'z': return lots.nextInt(42);
            case 'w': return lots.nextInt(9) - 1;
            case 'k': return lots.nextInt(12) - 1;
            case 'O': return lots.nextInt(3) == 0 ? lots.nextInt(10001) : lots.nextInt(500);
            case 'g': case 'l': return lots.nextInt(12) - 1;
            case 'G': return lots.nextInt(2) == 0 ? lots.nextInt(10001) : lots.nextInt(300);
            case 'p': return lots.nextInt(12) == 0 ? 3 : lots.nextInt(3);
            case 'D': return someDay();
            case 'E': return lots.nextInt(8) == 0 ? lots.nextInt(260000) : someDate(number('c'));
            case 'y': return lots.nextInt(252);
            case 'f': return lots.nextInt(152);
            case 'Y': return lots.nextInt(52);
            case 'R': return lots.nextInt(10001);
            case 'V': return lots.nextInt(2) == 0 ? lots.nextInt(5) : lots.nextInt(1001) / (1 + lots.nextInt(10));
            case 'N': return lots.nextInt(152);
            case 's': return lots.nextInt(20) == 0 ? 2147483646 : lots.nextInt();
            default: throw new IllegalStateException("no letter " + letter);
        }
    }

    /** Days that lie near orders, today and the ends come more often. */
    private static int someDay() {
        int near = lots.nextInt(20) - 10;
        switch (lots.nextInt(6)) {
            case 0: return clip(model.count(1) + near);
            case 1: return clip(someOrder() + near);
            case 2: return clip(someOrder() + 1000 + near);
            case 3: return clip(100 * lots.nextInt(200) + near);
            case 4: return lots.nextInt(20) == 0 ? 19999 : lots.nextInt(1200);
            default: return lots.nextInt(20000);
        }
    }

    private static int clip(int day) {
        return Math.max(0, Math.min(19999, day));
    }

    private static int someOrder() {
        if (model.towns() == 0) {
            return 0;
        }
        int[] days = model.table(lots.nextInt(model.towns())).counts;
        for (int day = 0; day < 20000; day += 1) {
            if (days[day] != day && lots.nextBoolean()) {
                return day;
            }
        }
        return 0;
    }

    private static int someDate(int c) {
        boolean isTown = c >= 0 && c < model.towns();
        int date = isTown ? model.table(c).dates[someDay()] : 1000 * lots.nextInt(200);
        return lots.nextInt(5) == 0 ? Math.max(0, date + lots.nextInt(30) - 15) : date;
    }

    /** A date by today, but for some. */
    private static int bornDate(int c) {
        boolean isTown = c >= 0 && c < model.towns();
        if (!isTown || lots.nextInt(6) == 0) {
            return someDate(c);
        }
        return model.table(c).dates[lots.nextInt(model.count(1) + 1)];
    }

    private static int[] span(int last, int most) {
        int from = Math.min(last, lots.nextInt(2) == 0 ? someDay() : lots.nextInt(last + 1));
        int days = lots.nextInt(4) == 0 ? lots.nextInt(most + 2) : lots.nextInt(Math.min(most, 400));
        int to = lots.nextInt(15) == 0 ? from + days : Math.min(last, from + days);
        return lots.nextInt(30) == 0 ? new int[] {to, from} : new int[] {from, to};
    }
}
