/** Promises 8 to 16: texts, faults, almanacs, and what towns tell. */
public final class AlmanacTest {
    private static final int NOTHING = 1, BEYOND = 2, UNLIKE = 3, SIZE = 5;

    public static void main(String[] args) {
        text();
        put();
        fault();
        almanac();
        town();
        markByKinds();
        markByDays();
        orderGapLeap();
        Check.end();
    }

    private static void text() {
        LostDays x = new LostDays();
        Check.due("text(0, 0)", x.text(0, 0), 0);
        Check.due("text(3, 60)", x.text(3, 60), 60);
        Check.due("count(5)", x.count(5), 2);
        Check.due("text(3, 61)", x.text(3, 61), LostDays.BAD);
        Check.due("text(4, 1)", x.text(4, 1), LostDays.BAD);
        Check.due("text(-1, -1)", x.text(-1, -1), LostDays.BAD);
        Check.finds(x, SIZE, "text(3, -1)", () -> x.text(3, -1));
        Check.due("put(3, 59, 7)", x.put(3, 59, 7), 1032);
        Check.due("text(3, 60) anew", x.text(3, 60), 60);
        Check.due("put(3, 59, 7) anew", x.put(3, 59, 7), 1032);
    }

    private static void put() {
        LostDays x = new LostDays();
        x.text(1, 2);
        Check.due("put(1, 0, 200)", x.put(1, 0, 200), 1032);
        Check.due("put(1, 0, 128)", x.put(1, 0, 128), 1000 - 56);
        Check.due("put(1, 0, 383)", x.put(1, 0, 383), 1000 - 128);
        Check.due("put(1, 0, -1)", x.put(1, 0, -1), 1127);
        Check.due("put(1, 0, 0)", x.put(1, 0, 0), 999);
        Check.due("put(4, 0, 0)", x.put(4, 0, 0), LostDays.BAD);
        Check.due("put(-1, 0, 0)", x.put(-1, 0, 0), LostDays.BAD);
        Check.finds(x, NOTHING, "put(0, 9, 0)", () -> x.put(0, 9, 0));
        Check.finds(x, BEYOND, "put(1, 2, 0)", () -> x.put(1, 2, 0));
        Check.finds(x, BEYOND, "put(1, -1, 0)", () -> x.put(1, -1, 0));
    }

    private static void fault() {
        dueFault("", LostDays.NONE);
        dueFault("    ", LostDays.NONE);
        dueFault("c200000", LostDays.NONE);
        dueFault("   c200000   l912349  ", LostDays.NONE);
        dueFault("c200000l300001x499999m500005o600009", LostDays.NONE);
        dueFault("a200000", 0);
        dueFault("C200000", 0);
        dueFault("  2c00000", 2);
        dueFault("c100000", 1);
        dueFault("c 200000", 1);
        dueFault("c2x00000", 2);
        dueFault("c20000", 6);
        dueFault("c20000 ", 6);
        dueFault("c2000/0", 5);
        dueFault("c20000:", 6);
        dueFault("c", 1);
        dueFault("c200000 d", 9);
        dueFault("c200000 d3", 10);
        dueFault("c200000 d300", 12);
        dueFault("c2000000", 7);
        dueFault("c200000 c200000 c200000 c200000 c200000", LostDays.NONE);
        dueFault("c200000 c200000 c200000 c200000 c200000  ", LostDays.NONE);
        dueFault("c200000 c200000 c200000 c200000 c200000 c200000", 40);
        dueFault("c200000c200000c200000c200000c200000 ?", 36);
        dueFault("c200000 c2000 0 c200000 c200000 c200000 c200000", 13);
        dueFault(" ".repeat(54) + "c20000", 60);
        dueFault(" ".repeat(53) + "c200000", LostDays.NONE);
        dueFault(" ".repeat(59) + "m", 60);
        LostDays x = new LostDays();
        Check.due("fault(4)", x.fault(4), LostDays.BAD);
        Check.due("fault(-1)", x.fault(-1), LostDays.BAD);
        Check.finds(x, NOTHING, "fault(3)", () -> x.fault(3));
        x.text(3, 7);
        x.put(3, 0, 'c' + 128);
        Check.due("a sign above 127", x.fault(3), 0);
    }

    private static void dueFault(String text, int want) {
        LostDays x = new LostDays();
        Make.write(x, 2, text);
        Check.due("fault of '" + text + "'", x.fault(2), want);
        Check.that("almanac of '" + text + "' by its fault", (x.almanac(2) == LostDays.STATE) == (want != LostDays.NONE));
    }

    private static void almanac() {
        LostDays x = Make.towns(Make.FIVE);
        Check.due("count(0)", x.count(0), 5);
        x.go(700);
        x.keep(0);
        x.keep(1);
        x.keep(2);
        long digest = x.digest();
        Make.write(x, 1, "c2000");
        Check.that("a text changes the digest", digest != x.digest());
        digest = x.digest();
        Check.due("almanac with a fault", x.almanac(1), LostDays.STATE);
        Check.finds(x, NOTHING, "almanac(3)", () -> x.almanac(3));
        Check.due("almanac(4)", x.almanac(4), LostDays.BAD);
        Check.due("almanac(-1)", x.almanac(-1), LostDays.BAD);
        Check.due("refused, changes nothing", x.digest(), digest);
        Make.write(x, 1, "d799999 m200000");
        Check.due("almanac anew", x.almanac(1), 2);
        Check.due("count(1)", x.count(1), 0);
        Check.due("count(6)", x.count(6), 0);
        for (int k = 0; k < 3; k++) {
            int place = k;
            Check.finds(x, NOTHING, "on(" + k + ")", () -> x.on(place));
        }
        Check.due("town(2, 0)", x.town(2, 0), LostDays.BAD);
        Make.write(x, 1, "   ");
        Check.due("almanac without towns", x.almanac(1), 0);
        Check.due("count(0)", x.count(0), 0);
        Check.due("go(1)", x.go(1), LostDays.STATE);
    }

    private static void town() {
        LostDays x = Make.towns("d399997 c212340");
        int[] want = {5, 3, 9999, 7, 0};
        for (int what = 0; what <= 4; what++) {
            Check.tells(x, "town(0, " + what + ")", x.town(0, what), 1, want[what]);
        }
        Check.tells(x, "town(1, 2)", x.town(1, 2), 1, 1234);
        x.go(9999);
        Check.tells(x, "town(0, 4)", x.town(0, 4), 1, 100006);
        Check.tells(x, "town(1, 4)", x.town(1, 4), 1, 99099);
        Check.due("town(2, 0)", x.town(2, 0), LostDays.BAD);
        Check.due("town(-1, 0)", x.town(-1, 0), LostDays.BAD);
        Check.due("town(0, 5)", x.town(0, 5), LostDays.BAD);
        Check.due("town(0, -1)", x.town(0, -1), LostDays.BAD);
        Check.due("asked() is kept", x.asked(), 99099);
        String letters = "clxmo";
        for (int kind = 0; kind < 5; kind++) {
            LostDays y = Make.towns(letters.charAt(kind) + "200000");
            Check.tells(y, "the kind of " + letters.charAt(kind), y.town(0, 0), 1, kind);
        }
    }

    private static void markByKinds() {
        String letters = "clxmod";
        String[] own = {"", "1", "2", "3", "14", "25"};
        for (int of = 0; of < 6; of++) {
            LostDays x = Make.towns(letters.charAt(of) + "200000");
            Check.due("mark(0, 0)", x.mark(0, 0), LostDays.BAD);
            for (int kind = 1; kind <= 5; kind++) {
                int asked = kind;
                if (own[of].indexOf('0' + kind) >= 0) {
                    Check.that("a kind " + of + " is of kind " + kind, x.mark(0, kind) >= 0);
                } else {
                    Check.finds(x, UNLIKE, "mark of kind " + of + " by " + kind, () -> x.mark(0, asked));
                }
            }
            Check.due("mark(0, 6)", x.mark(0, 6), LostDays.BAD);
            Check.due("mark(0, -1)", x.mark(0, -1), LostDays.BAD);
            Check.due("mark(1, 1)", x.mark(1, 1), LostDays.BAD);
            Check.due("mark(-1, 1)", x.mark(-1, 1), LostDays.BAD);
        }
    }

    private static void markByDays() {
        LostDays x = Make.towns("l300000 o301004 x201005 m200000 d201002");
        dueMarks(x, 0, 0, 0, 0, 100, 1, 100, 0);
        dueMarks(x, 97, 0, 0, 0, 3, 1, 3, 0);
        dueMarks(x, 98, 0, 0, 0, 2, 2, 2, 0);
        dueMarks(x, 99, 0, 0, 0, 1, 2, 1, 0);
        dueMarks(x, 100, 0, 2, 4, 0, 2, 0, 1);
        dueMarks(x, 101, 2, 2, 4, 0, 2, 0, 1);
        dueMarks(x, 301, 0, 0, 4, 0, 4, 0, 1);
        dueMarks(x, 1099, 2, 2, 4, 0, 12, 0, 1);
        dueMarks(x, 1100, 2, 1, 4, 0, 12, 0, 2);
        x.gap(1, 0);
        x.gap(4, 0);
        Check.due("left out by a gap of none", x.mark(1, 4), 0);
        Check.due("times that a gap of none left some out", x.mark(4, 5), 0);
    }

    private static void dueMarks(LostDays x, int day, int... want) {
        x.back(x.count(1));
        x.go(day);
        int[] towns = {0, 1, 1, 2, 3, 4, 4};
        int[] kinds = {1, 1, 4, 2, 3, 2, 5};
        for (int i = 0; i < want.length; i++) {
            Check.due("day " + day + ": mark(" + towns[i] + ", " + kinds[i] + ")", x.mark(towns[i], kinds[i]), want[i]);
        }
    }

    private static void orderGapLeap() {
        LostDays x = Make.towns("x204509 l300000");
        Check.due("order(0, 9999)", x.order(0, 9999), 450);
        Check.due("order(0, 0)", x.order(0, 0), 9999);
        Check.due("date(0, 0) by order 0", x.date(0, 0), 9);
        Check.due("order(0, 10000)", x.order(0, 10000), LostDays.BAD);
        Check.due("order(0, -1)", x.order(0, -1), LostDays.BAD);
        Check.due("order(2, 0)", x.order(2, 0), LostDays.BAD);
        Check.due("order(-1, 0)", x.order(-1, 0), LostDays.BAD);
        Check.due("gap(0, 0)", x.gap(0, 0), 9);
        Check.due("date(0, 0) by gap 0", x.date(0, 0), 0);
        Check.due("gap(0, 9)", x.gap(0, 9), 0);
        Check.due("gap(0, 10)", x.gap(0, 10), LostDays.BAD);
        Check.due("gap(0, -1)", x.gap(0, -1), LostDays.BAD);
        Check.due("gap(2, 1)", x.gap(2, 1), LostDays.BAD);
        Check.due("gap(-1, 1)", x.gap(-1, 1), LostDays.BAD);
        Check.due("leap(1, 2)", x.leap(1, 2), 3);
        Check.due("year(1, 2) by leap 2", x.year(1, 2), 101);
        Check.due("leap(1, 9)", x.leap(1, 9), 2);
        Check.due("year(1, 2) by leap 9", x.year(1, 2), 100);
        Check.due("leap(1, 1)", x.leap(1, 1), LostDays.BAD);
        Check.due("leap(1, 10)", x.leap(1, 10), LostDays.BAD);
        Check.due("leap(2, 3)", x.leap(2, 3), LostDays.BAD);
        Check.due("leap(-1, 3)", x.leap(-1, 3), LostDays.BAD);
        Check.tells(x, "town(1, 1)", x.town(1, 1), 1, 9);
        Check.tells(x, "town(0, 3)", x.town(0, 3), 1, 9);
        Check.tells(x, "town(0, 2)", x.town(0, 2), 1, 0);
    }
}
