import java.util.function.Consumer;

/** Boundary cases of the sentences under "Terms", on which the promises rest. */
public final class TermsEdgeTest {
    private static final int LEAST = Edge.LEAST, MOST = Edge.MOST;

    public static void main(String[] args) {
        constants();
        orderOfRefusals();
        theirOwnOrder();
        refusedChangesNothing();
        daysOfAll();
        townsOfAll();
        yearsByLeaps();
        yearsOfKinds();
        countsFromTheOrderOn();
        countsOfKindsThatLeaveNoneOut();
        doubledCounts();
        datesOfYearsThatEnd();
        datesLeftOut();
        datesOfTheLastDay();
        setsByBits();
        lots();
        Check.end();
    }

    private static void constants() {
        int[] got = {LostDays.BAD, LostDays.FULL, LostDays.FINDING, LostDays.STATE, LostDays.SPENT, LostDays.NONE};
        int[] want = {-1, -2, -3, -4, -6, -9};
        Check.that("terms: BAD -1, FULL -2, FINDING -3, STATE -4, SPENT -6, NONE -9", java.util.Arrays.equals(got, want));
    }

    private static void orderOfRefusals() {
        new Edge("terms: BAD ahead of STATE", x -> { }).bad("go", 10000).bad("keep", 3).state("go", 0).state("keep", 0);
        new Edge("terms: BAD ahead of SPENT", Make.on(19999, Make.FULL)).bad("go", 10000).spent("go", 1)
                .bad("voyage", 5, 0, 19999, 1).spent("voyage", 4, 0, 19999, 1);
        new Edge("terms: BAD ahead of FINDINGS", Make::full).bad("row", 6, -1).bad("text", 4, -1).bad("lay", 6, -1, 0)
                .bad("at", 6, -1).bad("copy", 4, -1, 6, -1, -1).bad("put", 4, -1, 0).bad("mark", 0, 0).bad("day", 5, 100)
                .bad("same", 0, 100, 5).bad("between", 5, 100, 100).bad("age", 5, 100).bad("due", 0, 100, 51)
                .bad("change", 0, 4, 1, 0).bad("kinds", 5, 4);
    }

    private static void theirOwnOrder() {
        new Edge("terms: almanac(): STATE behind NOTHING", Make::full).bad("almanac", 4).nothing("almanac", 3)
                .state("almanac", 2);
        new Edge("terms: go(): SPENT last", Make.on(19999, Make.FULL)).bad("go", -1).spent("go", 1);
        new Edge("terms: age(): BAD, NOUGHT, STATE", Make.on(0, Make.FULL)).bad("age", 5, 4050).nought("age", 2, 4050)
                .state("age", 2, 4049);
        new Edge("terms: copy(): SIZE, NOTHING, BEYOND", Make::full).size("copy", 4, -1, 4, -1, -1)
                .nothing("copy", 4, -1, 4, -1, 1).beyond("copy", 5, -1, 5, -1, 1);
    }

    /** One of each refusal, on an object on which something is everywhere (and Edge looks at all of it). */
    private static void refusedChangesNothing() {
        new Edge("terms: what is refused changes nothing", Make::full).bad("row", 0, 41).size("row", 0, -1)
                .bad("text", 0, 61).size("text", 0, -1).beyond("lay", 0, 40, 5).beyond("put", 0, 39, 5)
                .beyond("copy", 0, 0, 5, 0, 6).state("almanac", 2).bad("order", 2, 10000).bad("gap", 2, 10)
                .bad("leap", 2, 10).bad("go", 10000).bad("back", 701).bad("keep", 3).nothing("on", 1).bad("left", 2, 6)
                .bad("dates", 2, 0, 40, 0).bad("rent", 2, 10000, 0, 5).bad("moon", 20000);
        new Edge("terms: SPENT changes nothing", Make.on(19998, Make.FULL)).spent("go", 2);
    }

    private static void daysOfAll() {
        for (int day : new int[] {-1, 20000, LEAST, MOST}) {
            new Edge("terms: DAYS are 0 .. 19999", Make::full).bad("date", 0, day).bad("where", day, 0)
                    .bad("dates", 0, day, day, 4).bad("eldest", day).bad("agree", 0, 1, day, day)
                    .bad("apart", 0, 1, day, day).bad("change", 0, 2, day, day).bad("rent", 0, 1, day, day)
                    .bad("voyage", 0, 1, day, 0).bad("dated", 0, day, day).bad("moon", day);
        }
        new Edge("terms: DAY 19999 is one", Make.on(19999, Make.FULL)).is(199099, "date", 0, 19999)
                .tells(1, 1, "where", 19999, 199099).is(1, "dates", 0, 19999, 19999, 4).tells(0, 0, "eldest", 19999)
                .tells(1, 19999, "agree", 0, 0, 19999, 19999).tells(9, 19999, "apart", 0, 2, 19999, 19999)
                .is(1, "rent", 0, 1, 19999, 19999).tells(1, 0, "voyage", 0, 0, 19999, 0)
                .is(1, "dated", 199099, 19999, 19999).tells(0, 2, "moon", 19999);
        new Edge("terms: DAY 0 is one", Make::full).is(0, "date", 0, 0).tells(5, 31, "where", 0, 0)
                .is(1, "dates", 0, 0, 0, 4).tells(1, 0, "agree", 0, 1, 0, 0).tells(0, 0, "apart", 0, 2, 0, 0)
                .is(1, "rent", 0, 1, 0, 0).tells(1, 0, "voyage", 0, 0, 0, 0).is(31, "dated", 0, 0, 0).tells(1, 0, "moon", 0);
    }

    /** With three towns the third is the last one, however many there were ahead. */
    private static void townsOfAll() {
        Consumer<LostDays> three = x -> {
            Make.full(x);
            Make.towns(x, "c200000 l200000 o200000");
        };
        Edge e = new Edge("terms: TOWNS 0, 1, ..", three);
        String[] calls = {"town 0", "mark 1", "order 5", "gap 5", "leap 5", "date 5", "day 5", "year 5", "left 4", "age 0",
            "kinds 1", "feast 5"};
        for (String call : calls) {
            String[] parts = call.split(" ");
            Check.that("terms: TOWN 2 is one for " + call, Call.answer(made(three), parts[0], 2, Integer.parseInt(parts[1])) >= 0);
            e.bad(parts[0], 3, Integer.parseInt(parts[1])).bad(parts[0], 4, Integer.parseInt(parts[1]));
        }
        e.bad("same", 3, 5, 0).bad("same", 0, 5, 3).bad("between", 3, 5, 5).bad("dates", 3, 5, 5, 4)
                .bad("agree", 3, 0, 5, 5).bad("agree", 0, 3, 5, 5).bad("till", 3, 0).bad("till", 0, 3)
                .bad("apart", 3, 0, 5, 5).bad("apart", 0, 3, 5, 5).bad("due", 3, 5, 1).bad("change", 3, 1, 5, 5)
                .bad("rent", 3, 5, 5, 5).bad("voyage", 3, 0, 5, 5).bad("voyage", 0, 3, 5, 5)
                .bad("together", 3, 0, 5, 5).bad("together", 0, 3, 5, 5).bad("lots", 3, 0, 5, 5).bad("lots", 0, 3, 5, 5);
        e.tells(3, 7, "where", 0, 0).is(7, "dated", 0, 0, 19999).tells(0, 0, "eldest", 0).is(3, "count", 0);
    }

    private static LostDays made(Consumer<LostDays> maker) {
        LostDays x = new LostDays();
        maker.accept(x);
        return x;
    }

    private static void yearsByLeaps() {
        for (int leap = 2; leap <= 9; leap++) {
            for (String letter : new String[] {"l", "o"}) {
                LostDays x = Make.towns(letter + leap + "00000");
                for (int y = 0; y <= 2 * leap + 1; y++) {
                    boolean isLong = y == 0 || y == leap || y == 2 * leap;
                    int length = isLong ? 101 : 100;
                    Check.tells(x, "terms: YEAR " + y + " by " + letter + leap, x.year(0, y), length, length);
                    Check.due("terms: its last DATE is one", x.day(0, 1000 * y + length - 1) >= 0 ? 1 : 0, 1);
                    Check.due("terms: the next one is none", x.day(0, 1000 * y + length), LostDays.FINDING);
                }
                int firstOfNextRound = 100 * leap + 1;
                Check.due("terms: the DAY ahead of YEAR " + leap, x.date(0, firstOfNextRound - 1), 1000 * (leap - 1) + 99);
                Check.due("terms: YEAR " + leap + " begins", x.date(0, firstOfNextRound), 1000 * leap);
                Check.due("terms: YEAR " + leap + " ends", x.date(0, firstOfNextRound + 100), 1000 * leap + 100);
                Check.due("terms: then the next one begins", x.date(0, firstOfNextRound + 101), 1000 * leap + 1000);
            }
        }
    }

    private static void yearsOfKinds() {
        new Edge("terms: a YEAR of a CALENDAR, a CUT, a DOUBLED one has 100 DAYS, whatever the LEAP",
                Make.on(0, "c200000 x200000 d200000 m200000")).is(99, "date", 0, 99).is(1000, "date", 0, 100)
                .is(99, "date", 1, 99).is(1000, "date", 1, 100).is(99, "date", 2, 99).is(1000, "date", 2, 100)
                .is(97, "date", 3, 97).is(1000, "date", 3, 98).is(1097, "date", 3, 195).is(2000, "date", 3, 196);
        new Edge("terms: COUNT 0 is the first DAY of YEAR 0", Make.on(0, "c200000 l200000 m200000 x200010 x200009"))
                .is(0, "date", 0, 0).is(0, "date", 1, 0).is(0, "date", 2, 0).is(0, "date", 3, 0).is(9, "date", 4, 0);
    }

    private static void countsFromTheOrderOn() {
        for (String letter : new String[] {"x", "o", "d"}) {
            String kind = "terms: from the ORDER on GAP more, " + letter;
            // by leap 9 an ordered one's dates from 101 on are a day less
            int less = letter.equals("o") ? 1 : 0;
            new Edge(kind, Make.on(0, letter + "904509")).is(4049 - less, "date", 0, 449).is(4059 - less, "date", 0, 450)
                    .is(4060 - less, "date", 0, 451);
            new Edge(kind + ", GAP 1", Make.on(0, letter + "904501")).is(4049 - less, "date", 0, 449)
                    .is(4051 - less, "date", 0, 450);
            new Edge(kind + ", GAP 0", Make.on(0, letter + "904500")).is(4049 - less, "date", 0, 449)
                    .is(4050 - less, "date", 0, 450);
            new Edge(kind + ", ORDER 0", Make.on(0, letter + "900009")).is(9, "date", 0, 0).is(10, "date", 0, 1);
            new Edge(kind + ", ORDER 1", Make.on(0, letter + "900019")).is(0, "date", 0, 0).is(10, "date", 0, 1);
        }
        new Edge("terms: ORDER 9999", Make.on(0, "x299999")).is(99098, "date", 0, 9998).is(100008, "date", 0, 9999);
    }

    private static void countsOfKindsThatLeaveNoneOut() {
        new Edge("terms: a CALENDAR, a LEAPED one, a MOON leave none out", Make.on(19999, "c900509 l900509 m900509"))
                .is(50, "date", 0, 50).is(50, "date", 1, 50).is(50, "date", 2, 50).is(50, "day", 0, 50).is(50, "day", 1, 50)
                .is(50, "day", 2, 50).is(199099, "date", 0, 19999).is(0, "left", 0, 0).is(0, "left", 1, 0)
                .is(0, "left", 2, 0).tells(1, 1, "voyage", 0, 0, 49, 1).tells(0, 0, "apart", 0, 2, 0, 19999);
    }

    private static void doubledCounts() {
        new Edge("terms: from 1000 DAYS later on GAP more again", Make.on(0, "d204509")).is(4049, "date", 0, 449)
                .is(4059, "date", 0, 450).is(14058, "date", 0, 1449).is(14068, "date", 0, 1450).is(24068, "date", 0, 2450)
                .is(449, "day", 0, 4049).nought("day", 0, 4050).nought("day", 0, 4058).is(450, "day", 0, 4059)
                .is(1449, "day", 0, 14058).nought("day", 0, 14059).nought("day", 0, 14067).is(1450, "day", 0, 14068)
                .is(2450, "day", 0, 24068);
        new Edge("terms: a CUT one but once", Make.on(0, "x204509")).is(14058, "date", 0, 1449).is(14059, "date", 0, 1450);
        new Edge("terms: an ORDERED one but once", Make.on(0, "o904509")).is(14056, "date", 0, 1449)
                .is(14057, "date", 0, 1450);
        new Edge("terms: ORDER 9999, and 10999", Make.on(0, "d299999")).is(100008, "date", 0, 9999)
                .is(110007, "date", 0, 10998).is(110017, "date", 0, 10999).nought("day", 0, 110008)
                .nought("day", 0, 110016).is(10998, "day", 0, 110007).is(10999, "day", 0, 110017);
        new Edge("terms: ORDER 0, and 1000", Make.on(0, "d200009")).nought("day", 0, 0).nought("day", 0, 8).is(0, "day", 0, 9)
                .is(999, "day", 0, 10008).nought("day", 0, 10009).nought("day", 0, 10017).is(1000, "day", 0, 10018);
        new Edge("terms: GAP 0 twice", Make.on(0, "d204500")).is(4050, "date", 0, 450).is(14050, "date", 0, 1450)
                .is(450, "day", 0, 4050).is(1450, "day", 0, 14050);
    }

    private static void datesOfYearsThatEnd() {
        new Edge("terms: none, if the YEAR has not so many DAYS", Make.on(0, "c200000 l300000 x299999 m200000"))
                .is(99, "day", 0, 99).nought("day", 0, 100).nought("day", 0, 999).is(100, "day", 0, 1000)
                .is(100, "day", 1, 100).nought("day", 1, 101).is(200, "day", 1, 1099).nought("day", 1, 1100)
                .is(401, "day", 1, 3100).nought("day", 1, 3101).is(99, "day", 2, 99).nought("day", 2, 100)
                .is(97, "day", 3, 97).nought("day", 3, 98).is(98, "day", 3, 1000).nought("day", 3, 99);
    }

    private static void datesLeftOut() {
        // counts 99, 100, 101 by ORDER 99 of an ordered one: the end of year 0 and the first of year 1
        new Edge("terms: none, if its COUNT is left out", Make.on(0, "o200993")).is(98, "day", 0, 98).nought("day", 0, 99)
                .nought("day", 0, 100).nought("day", 0, 1000).is(99, "day", 0, 1001).nought("day", 0, 101);
        new Edge("terms: none left out by GAP 0", Make.on(0, "x204500")).is(450, "day", 0, 4050);
        new Edge("terms: one left out by GAP 1", Make.on(0, "x204501")).is(449, "day", 0, 4049).nought("day", 0, 4050)
                .is(450, "day", 0, 4051);
    }

    private static void datesOfTheLastDay() {
        new Edge("terms: none, if its COUNT is that of a DAY above 19999", Make.on(0, "c200000 x200009 m200000 d200009"))
                .is(19999, "day", 0, 199099).nought("day", 0, 200000).is(19999, "day", 1, 200008).nought("day", 1, 200009)
                .is(19999, "day", 2, 204007).nought("day", 2, 204008).is(19999, "day", 3, 200017).nought("day", 3, 200018);
        // by leap 2 year 199 begins on 20000, by leap 9 on 19923
        new Edge("terms: none, if its COUNT is that of a DAY above 19999, of LEAPED ones", Make.on(0, "l200000 l900000 o900009"))
                .is(19999, "day", 0, 198100).nought("day", 0, 199000).is(19999, "day", 1, 199076).nought("day", 1, 199077)
                .is(19999, "day", 2, 199085).nought("day", 2, 199086);
        new Edge("terms: none, if the number is far", Make::full).nought("day", 0, MOST).nought("day", 1, MOST)
                .nought("day", 2, MOST).nought("day", 3, MOST).nought("day", 4, MOST).nought("day", 0, 2147483000)
                .nought("day", 1, 2147480000).nought("day", 3, 2147483097);
    }

    private static void setsByBits() {
        new Edge("terms: sets of TOWNS by bits", Make.on(0, "m200000 c200000 m200000 c200000 m200000"))
                .tells(3, 1 + 4 + 16, "where", 98, 1000).tells(2, 2 + 8, "where", 98, 98).tells(0, 0, "where", 98, 99)
                .tells(5, 31, "where", 97, 97).is(1 + 4 + 16, "dated", 1000, 98, 98).is(2 + 8, "dated", 1000, 100, 100);
        new Edge("terms: sets of KINDS by bits", x -> {
            Make.towns(x, "c201005");
            Make.fill(x, 0, 97, 97);
            Make.fill(x, 1, 100, 1);
        }).is(63, "kinds", 0, 0).is(0, "kinds", 0, 1);
    }

    private static void lots() {
        // 44488 times 48271 is 2147480248, day 248; 44489 times it is 44872 above 2147483647, day 4872
        new Edge("terms: LOTS below 2147483647", Make.on(0, "c200000 x202481")).is(0, "lots", 0, 1, 1, 44488);
        new Edge("terms: LOTS below 2147483647", Make.on(0, "c200000 x202491")).is(1, "lots", 0, 1, 1, 44488);
        new Edge("terms: LOTS modulo 2147483647", Make.on(0, "c200000 x248721")).is(0, "lots", 0, 1, 1, 44489);
        new Edge("terms: LOTS modulo 2147483647", Make.on(0, "c200000 x248731")).is(1, "lots", 0, 1, 1, 44489);
    }
}
