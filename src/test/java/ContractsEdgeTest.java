import java.util.function.Consumer;

/** Boundary cases of promises 34 to 37, sentence by sentence: contracts, rents. */
public final class ContractsEdgeTest {
    private static final int LEAST = Edge.LEAST, MOST = Edge.MOST, NONE = LostDays.NONE;

    public static void main(String[] args) {
        dueNumbers();
        dueByYears();
        dueIsNone();
        quarrelsNumbers();
        quarrelsUnlike();
        quarrelsMany();
        changeNumbers();
        changeUnlike();
        changeFirst();
        rentNumbers();
        rentParts();
        Check.end();
    }

    /** full(), and a row of contracts (or of what shall be none). */
    private static Consumer<LostDays> row(int... places) {
        return x -> {
            Make.full(x);
            Make.fill(x, 4, places);
        };
    }

    private static void dueNumbers() {
        new Edge("34 due: TOWNS", Make::full).within(0, 0, 4, "due", 0, 5000, 1);
        new Edge("34 due: 0 .. 50 YEARS", Make::full).within(2, 0, 50, "due", 0, 5000, 1);
        new Edge("34 due: NOUGHT", Make::full).tells(540, 549, "due", 2, 4049, 1).nought("due", 2, 4050, 1)
                .nought("due", 2, 4058, 1).tells(550, 550, "due", 2, 4059, 1).nought("due", 2, 200009, 0)
                .nought("due", 2, MOST, 50);
        new Edge("34 due: BAD ahead of NOUGHT", Make::full).bad("due", 2, 4050, 51).bad("due", 2, 4050, -1)
                .bad("due", 5, 4050, 1).bad("due", -1, 4050, 1);
        new Edge("34 due: a DATE below 0 is no number of one", Make::full).bad("due", 0, -1, 1).bad("due", 0, LEAST, 0);
        new Edge("34 due: no TOWNS", x -> { }).bad("due", 0, 0, 0);
    }

    private static void dueByYears() {
        new Edge("34 due: 0 YEARS", Make::full).tells(0, 0, "due", 0, 0, 0).tells(19999, 19999, "due", 0, 199099, 0)
                .tells(450, 450, "due", 2, 4059, 0);
        new Edge("34 due: 50 YEARS", Make::full).tells(5000, 5000, "due", 0, 0, 50).tells(4900, 5000, "due", 3, 0, 50)
                .tells(4991, 5000, "due", 2, 0, 50);
        new Edge("34 due: by YEARS on the last DAY", Make::full).tells(19999, 19999, "due", 0, 149099, 50)
                .tells(NONE, 20000, "due", 0, 150000, 50).tells(19999, 19999, "due", 2, 199008, 1)
                .tells(NONE, 20000, "due", 2, 199009, 1);
        new Edge("34 due: by DAYS perhaps above 19999", Make::full).tells(NONE, 24999, "due", 0, 199099, 50)
                .tells(NONE, 20099, "due", 0, 199099, 1).tells(19999, 20001, "due", 3, 203007, 1)
                .tells(NONE, 20002, "due", 3, 203008, 1).tells(19999, 20099, "due", 3, 154007, 50);
    }

    private static void dueIsNone() {
        new Edge("34 due: NONE, asked() likewise: left out", Make::full).tells(449, 449, "due", 2, 3049, 1)
                .tells(NONE, 450, "due", 2, 3050, 1).tells(NONE, 458, "due", 2, 3058, 1).tells(450, 459, "due", 2, 3059, 1);
        new Edge("34 due: NONE: the YEAR has not so many DAYS", Make.on(0, "l200000")).tells(NONE, 200, "due", 0, 100, 1)
                .tells(200, 199, "due", 0, 99, 1).tells(301, 300, "due", 0, 100, 2);
    }

    private static void quarrelsNumbers() {
        new Edge("35 quarrels: ROWS 0 .. 5", Make::full).within(0, 0, 5, "quarrels", 2);
        new Edge("35 quarrels: NOTHING", Make::full).nothing("quarrels", 4);
        new Edge("35 quarrels: none of none", Make::full).tells(0, NONE, "quarrels", 1);
        for (int n = 0; n <= 40; n++) {
            int size = n;
            Edge e = new Edge("35 quarrels: SIZE: not by threes", x -> {
                Make.full(x);
                x.row(4, size);
            });
            if (n % 3 == 0) {
                e.tells(0, NONE, "quarrels", 4);
            } else {
                e.size("quarrels", 4);
            }
        }
        new Edge("35 quarrels: SIZE ahead of UNLIKE", row(9, -1, 99, 9)).size("quarrels", 4);
        new Edge("35 quarrels: BAD ahead of all", row(9, -1, 99, 9)).bad("quarrels", 6).bad("quarrels", -1);
        new Edge("35 quarrels: no TOWNS", x -> Make.fill(x, 4, 0, 0, 0)).unlike("quarrels", 4);
        new Edge("35 quarrels: no TOWNS, no CONTRACTS", x -> x.row(4, 0)).tells(0, NONE, "quarrels", 4);
    }

    private static void quarrelsUnlike() {
        new Edge("35 quarrels: UNLIKE: no TOWN", row(4, 0, 0)).tells(0, NONE, "quarrels", 4);
        for (int c : new int[] {-1, 5, LEAST, MOST}) {
            new Edge("35 quarrels: UNLIKE: no TOWN", row(c, 0, 0)).unlike("quarrels", 4);
        }
        for (int date : new int[] {4049, 4059, 200008}) {
            new Edge("35 quarrels: a DATE there", row(2, date, 0)).tells(0, NONE, "quarrels", 4);
        }
        for (int date : new int[] {4050, 4058, 200009, -1, LEAST, MOST, 100}) {
            new Edge("35 quarrels: UNLIKE: no DATE there", row(2, date, 0)).unlike("quarrels", 4);
        }
        for (int years : new int[] {0, 50}) {
            new Edge("35 quarrels: 0 .. 50", row(0, 0, years)).tells(0, NONE, "quarrels", 4);
        }
        for (int years : new int[] {-1, 51, LEAST, MOST}) {
            new Edge("35 quarrels: UNLIKE: no 0 .. 50", row(0, 0, years)).unlike("quarrels", 4);
        }
        new Edge("35 quarrels: UNLIKE, the last of three", row(0, 0, 0, 2, 3055, 1, 0, 0, 51)).unlike("quarrels", 4);
        new Edge("35 quarrels: UNLIKE, the first of three", row(5, 0, 0, 2, 3055, 1, 0, 0, 50)).unlike("quarrels", 4);
    }

    private static void quarrelsMany() {
        new Edge("35 quarrels: the number of the first", row(2, 3049, 1, 2, 3050, 1, 2, 3059, 1)).tells(2, 1, "quarrels", 4);
        new Edge("35 quarrels: number 0", row(2, 3050, 1, 0, 0, 1)).tells(1, 0, "quarrels", 4);
        new Edge("35 quarrels: the first one is none, the second is", row(0, 199099, 1)).tells(1, 0, "quarrels", 4);
        new Edge("35 quarrels: not the same DAY", row(3, 0, 1, 1, 1000, 1)).tells(1, 0, "quarrels", 4);
        int[] all = new int[39];
        for (int i = 0; i < 39; i += 3) {
            all[i] = 3;
            all[i + 2] = 1;
        }
        new Edge("35 quarrels: all of thirteen", row(all)).tells(13, 0, "quarrels", 4);
        new Edge("36 change: all of thirteen", row(all)).tells(17, 13, "change", 3, 4, 17, 30);
        for (int i = 0; i < 36; i += 3) {
            all[i] = 0;
        }
        new Edge("35 quarrels: the last of thirteen", row(all)).tells(1, 12, "quarrels", 4);
    }

    private static void changeNumbers() {
        new Edge("36 change: TOWNS", Make::full).within(0, 0, 4, "change", 0, 2, 5, 9);
        new Edge("36 change: ROWS 0 .. 5", Make::full).within(1, 0, 5, "change", 0, 2, 5, 9);
        new Edge("36 change: DAYS from 0", Make::full).within(2, 0, 9, "change", 0, 2, 5, 9);
        new Edge("36 change: BAD: above 9999", Make::full).within(3, 9950, 9999, "change", 0, 2, 9950, 9960)
                .bad("change", 0, 2, 10000, 10000);
        new Edge("36 change: BAD: the second below the first", Make::full).tells(9, 1, "change", 0, 2, 9, 9)
                .bad("change", 0, 2, 9, 8).bad("change", 0, 2, MOST, LEAST);
        new Edge("36 change: BAD: more than 100 DAYS", Make::full).tells(0, 1, "change", 0, 2, 0, 99)
                .bad("change", 0, 2, 0, 100).tells(9900, 1, "change", 0, 2, 9900, 9999).bad("change", 0, 2, 9899, 9999)
                .bad("change", 0, 2, LEAST, MOST).bad("change", 0, 2, 0, 9999);
        new Edge("36 change: NOTHING", Make::full).nothing("change", 0, 4, 0, 9);
        new Edge("36 change: SIZE", Make::full).size("change", 0, 5, 0, 9).size("change", 0, 0, 0, 9);
        new Edge("36 change: no CONTRACTS", Make::full).tells(7, 0, "change", 0, 1, 7, 9);
        new Edge("36 change: SIZE ahead of UNLIKE", row(9, -1, 99, 9)).size("change", 0, 4, 0, 9);
        new Edge("36 change: BAD ahead of all", row(9, -1, 99, 9)).bad("change", 0, 4, 9, 8).bad("change", 5, 4, 0, 9)
                .bad("change", 0, 4, 0, 100);
        new Edge("36 change: BAD ahead of NOTHING", Make::full).bad("change", 0, 4, 9, 8).bad("change", 5, 4, 0, 9);
        new Edge("36 change: no TOWNS", x -> x.row(4, 0)).bad("change", 0, 4, 0, 0);
    }

    private static void changeUnlike() {
        for (int c : new int[] {-1, 5, LEAST, MOST}) {
            new Edge("36 change: UNLIKE: no TOWN", row(c, 0, 0)).unlike("change", 0, 4, 0, 9);
        }
        new Edge("36 change: the last TOWN", row(4, 0, 0)).tells(0, 0, "change", 0, 4, 0, 9);
        for (int date : new int[] {-1, LEAST}) {
            new Edge("36 change: UNLIKE: a number below 0", row(0, date, 0)).unlike("change", 0, 4, 0, 9);
        }
        new Edge("36 change: 0 is not below 0", row(0, 0, 0)).tells(0, 0, "change", 0, 4, 0, 9);
        for (int date : new int[] {100, 200000, MOST}) {
            new Edge("36 change: a DATE that is none QUARRELS", row(0, date, 0)).tells(0, 1, "change", 2, 4, 0, 9);
        }
        for (int years : new int[] {-1, 51, LEAST, MOST}) {
            new Edge("36 change: UNLIKE: no 0 .. 50", row(0, 0, years)).unlike("change", 0, 4, 0, 9);
        }
        new Edge("36 change: 50 YEARS", row(0, 0, 50)).tells(0, 0, "change", 0, 4, 0, 9);
        new Edge("36 change: UNLIKE, the last of three", row(0, 0, 0, 2, 4055, 1, 0, 0, 51)).unlike("change", 0, 4, 0, 9);
    }

    private static void changeFirst() {
        // from day 350 to day 450: an ORDER from 351 to 450 breaks it, one by 350 makes it another DAY's DATE
        Consumer<LostDays> one = row(2, 3050, 1);
        new Edge("36 change: both, too", one).tells(451, 0, "change", 2, 4, 352, 451).tells(351, 1, "change", 2, 4, 351, 450)
                .tells(451, 0, "change", 2, 4, 451, 451).tells(450, 1, "change", 2, 4, 450, 450);
        new Edge("36 change: the first of those alike", one).tells(451, 0, "change", 2, 4, 440, 500)
                .tells(400, 1, "change", 2, 4, 400, 410);
        // an ORDER on 342 .. 350 leaves out 3050 itself; by 341 it is on day 341, and due on day 441
        new Edge("36 change: a DATE that is none then QUARRELS, too", one).tells(342, 1, "change", 2, 4, 342, 350)
                .tells(341, 0, "change", 2, 4, 341, 350).tells(300, 0, "change", 2, 4, 300, 350);
        new Edge("36 change: ORDER 0", one).tells(0, 0, "change", 2, 4, 0, 0);
        new Edge("36 change: ORDER 9999", one).tells(9999, 0, "change", 2, 4, 9999, 9999);
        new Edge("36 change: another TOWN's ORDER", one).tells(451, 1, "change", 0, 4, 451, 460);
        new Edge("36 change: a TOWN whose ORDER leaves none out", row(0, 3050, 1)).tells(351, 0, "change", 0, 4, 351, 450);
        // a doubled one leaves out again 1000 DAYS later
        new Edge("36 change: a DOUBLED one", row(4, 13050, 1)).tells(350, 1, "change", 4, 4, 350, 440);
    }

    private static void rentNumbers() {
        new Edge("37 rent: TOWNS", Make::full).within(0, 0, 4, "rent", 0, 50, 5, 9);
        new Edge("37 rent: v 0 .. 9999", Make::full).within(1, 0, 9999, "rent", 2, 50, 5, 9);
        new Edge("37 rent: DAYS from 0", Make::full).within(2, 0, 9, "rent", 2, 50, 5, 9);
        new Edge("37 rent: DAYS to 19999", Make::full).within(3, 19900, 19999, "rent", 2, 50, 19900, 19950);
        new Edge("37 rent: BAD: the second below the first", Make::full).is(1, "rent", 0, 50, 9, 9)
                .bad("rent", 0, 50, 9, 8).bad("rent", 0, 50, MOST, LEAST);
        new Edge("37 rent: BAD: more than 400 DAYS", Make::full).is(1, "rent", 0, 50, 0, 400).bad("rent", 0, 50, 0, 401)
                .is(1, "rent", 0, 50, 19599, 19999).bad("rent", 0, 50, 19598, 19999).bad("rent", 0, 50, 0, 19999)
                .bad("rent", 0, 50, LEAST, MOST);
        new Edge("37 rent: no TOWNS", x -> { }).bad("rent", 0, 0, 0, 0);
    }

    private static void dueRent(long upper, long lower, int c, int v, int from, int to) {
        LostDays x = Make.full();
        String call = "37 " + Call.told("rent", c, v, from, to);
        Check.due(call, x.rent(c, v, from, to), 1);
        Check.due(call + ", upper()", x.upper(), upper);
        Check.due(call + ", lower()", x.lower(), lower);
    }

    private static void rentParts() {
        // no DAY, or no rent: 0 by 1
        dueRent(0, 1, 0, 50, 9, 9);
        dueRent(0, 1, 1, 9999, 0, 0);
        dueRent(0, 1, 3, 9999, 19999, 19999);
        dueRent(0, 1, 1, 0, 0, 400);
        dueRent(0, 1, 3, 0, 97, 98);
        // the first, not the second: day 100 is the last one of a long year
        dueRent(1, 101, 1, 1, 100, 101);
        dueRent(1, 100, 1, 1, 101, 102);
        dueRent(201, 10100, 1, 1, 100, 102);
        dueRent(1, 1, 1, 1, 0, 101);
        dueRent(100, 101, 1, 1, 0, 100);
        dueRent(101, 100, 1, 1, 0, 102);
        dueRent(2, 1, 1, 1, 0, 201);
        // lowest terms
        dueRent(1, 2, 0, 50, 0, 1);
        dueRent(1, 1, 0, 100, 19998, 19999);
        dueRent(1, 2, 3, 7, 0, 7);
        dueRent(4L * 9999, 1, 0, 9999, 0, 400);
        dueRent(200L * 9999, 49, 3, 9999, 0, 400);
        // 400 DAYS of which 101 are of the long YEAR 0
        dueRent(9999L * (100 + 299), 100, 1, 9999, 0, 400);
        // a gap makes a YEAR no shorter by its KIND
        dueRent(91, 1, 2, 100, 400, 491);
        dueRent(91, 100, 2, 1, 400, 491);
        dueRent(1, 50, 1, 1, 549, 551);
        // by the gap of 7 the long year 8, which begins on count 802, begins on day 795
        dueRent(1, 100, 1, 1, 794, 795);
        dueRent(1, 101, 1, 1, 795, 796);
    }
}
