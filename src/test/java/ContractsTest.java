/** Promises 34 to 37: contracts and rents. */
public final class ContractsTest {
    private static final int NOTHING = 1, UNLIKE = 3, NOUGHT = 4, SIZE = 5;

    public static void main(String[] args) {
        due();
        quarrels();
        wrongContracts();
        change();
        wrongChange();
        rent();
        Check.end();
    }

    private static void due() {
        LostDays x = Make.towns(Make.FIVE);
        Check.tells(x, "due(0, 3007, 0)", x.due(0, 3007, 0), 307, 307);
        Check.tells(x, "due(0, 0, 1)", x.due(0, 0, 1), 100, 100);
        Check.tells(x, "due(0, 3007, 50)", x.due(0, 3007, 50), 5307, 5307);
        Check.tells(x, "due(1, 1000, 4)", x.due(1, 1000, 4), 502, 501);
        Check.tells(x, "over the gap", x.due(2, 3060, 1), 451, 460);
        Check.tells(x, "due on a date left out", x.due(2, 3055, 1), LostDays.NONE, 455);
        Check.tells(x, "due above 19999", x.due(0, 199099, 50), LostDays.NONE, 24999);
        Check.tells(x, "due when the year has not so many", x.due(1, 100, 1), LostDays.NONE, 200);
        Check.finds(x, NOUGHT, "due(2, 4055, 1)", () -> x.due(2, 4055, 1));
        Check.finds(x, NOUGHT, "due(0, most, 50)", () -> x.due(0, Integer.MAX_VALUE, 50));
        Check.due("due(0, 0, 51)", x.due(0, 0, 51), LostDays.BAD);
        Check.due("due(2, 4055, -1)", x.due(2, 4055, -1), LostDays.BAD);
        Check.due("due(0, -1, 1)", x.due(0, -1, 1), LostDays.BAD);
        Check.due("due(5, 0, 1)", x.due(5, 0, 1), LostDays.BAD);
        Check.due("due(-1, 0, 1)", x.due(-1, 0, 1), LostDays.BAD);
        Check.due("asked() is kept", x.asked(), 200);
    }

    private static void quarrels() {
        LostDays x = Make.towns(Make.FIVE);
        Make.fill(x, 3, 0, 3000, 5, 2, 3060, 1, 2, 3055, 1, 4, 0, 1, 4, 0, 0, 0, 199099, 1);
        Check.tells(x, "four of six", x.quarrels(3), 4, 1);
        Make.fill(x, 3, 1, 100, 0, 0, 17, 50);
        Check.tells(x, "none of two", x.quarrels(3), 0, LostDays.NONE);
        Make.fill(x, 3, 1, 0, 1);
        Check.tells(x, "the one", x.quarrels(3), 1, 0);
        x.row(3, 39);
        x.lay(3, 36, 4);
        x.lay(3, 38, 50);
        Check.tells(x, "the last of thirteen", x.quarrels(3), 1, 12);
        Check.tells(x, "likewise on trial", x.change(0, 3, 0, 0), 0, 1);
        x.row(3, 0);
        Check.tells(x, "none of none", x.quarrels(3), 0, LostDays.NONE);
    }

    private static void wrongContracts() {
        LostDays x = Make.towns(Make.FIVE);
        Check.due("quarrels(6)", x.quarrels(6), LostDays.BAD);
        Check.due("quarrels(-1)", x.quarrels(-1), LostDays.BAD);
        Check.finds(x, NOTHING, "quarrels(0)", () -> x.quarrels(0));
        Make.fill(x, 0, 9, 9, 99, 9);
        Check.finds(x, SIZE, "not by threes", () -> x.quarrels(0));
        int[][] wrong = {{5, 0, 0}, {-1, 0, 0}, {0, 0, 51}, {0, 0, -1}, {0, -1, 1}, {2, 4055, 1}, {0, 200000, 1}};
        for (int[] last : wrong) {
            Make.fill(x, 0, 1, 0, 1, last[0], last[1], last[2]);
            Check.finds(x, UNLIKE, "quarrels of " + last[0] + ", " + last[1] + ", " + last[2], () -> x.quarrels(0));
        }
        Check.due("asked() is kept, as lay() told it", x.asked(), 0);
    }

    private static void change() {
        LostDays x = Make.towns("x204509 c200000");
        Make.fill(x, 0, 0, 3050, 1, 0, 4010, 1, 1, 3050, 1, 0, 4052, 0);
        long digest = x.digest();
        // the first is due on 450, the second on 510: an order after that breaks none, one between both does
        Check.tells(x, "change(0, 0, 440, 520)", x.change(0, 0, 440, 520), 511, 0);
        Check.tells(x, "change(0, 0, 440, 511)", x.change(0, 0, 440, 511), 511, 0);
        Check.tells(x, "change(0, 0, 440, 510)", x.change(0, 0, 440, 510), 453, 1);
        Check.tells(x, "change(0, 0, 440, 460)", x.change(0, 0, 440, 460), 453, 1);
        Check.tells(x, "change(0, 0, 446, 452)", x.change(0, 0, 446, 452), 451, 2);
        Check.tells(x, "change(0, 0, 445, 449)", x.change(0, 0, 445, 449), 445, 3);
        Check.tells(x, "of another town", x.change(1, 0, 0, 99), 0, 3);
        Check.due("it is not changed", x.digest(), digest);
        x.row(0, 0);
        Check.tells(x, "without contracts", x.change(0, 0, 9900, 9999), 9900, 0);
    }

    private static void wrongChange() {
        LostDays x = Make.towns(Make.FIVE);
        Check.due("change(5, 0, 0, 9)", x.change(5, 0, 0, 9), LostDays.BAD);
        Check.due("change(-1, 0, 0, 9)", x.change(-1, 0, 0, 9), LostDays.BAD);
        Check.due("change(0, 6, 0, 9)", x.change(0, 6, 0, 9), LostDays.BAD);
        Check.due("change(0, -1, 0, 9)", x.change(0, -1, 0, 9), LostDays.BAD);
        Check.due("change(0, 0, -1, 9)", x.change(0, 0, -1, 9), LostDays.BAD);
        Check.due("change(0, 0, 9, 8)", x.change(0, 0, 9, 8), LostDays.BAD);
        Check.due("change(0, 0, 9999, 10000)", x.change(0, 0, 9999, 10000), LostDays.BAD);
        Check.due("change(0, 0, 0, 100)", x.change(0, 0, 0, 100), LostDays.BAD);
        Check.finds(x, NOTHING, "change(0, 0, 0, 99)", () -> x.change(0, 0, 0, 99));
        x.row(0, 4);
        Check.finds(x, SIZE, "not by threes", () -> x.change(0, 0, 0, 99));
        int[][] wrong = {{5, 0, 0}, {-1, 0, 0}, {0, 0, 51}, {0, 0, -1}, {0, -1, 1}};
        for (int[] last : wrong) {
            Make.fill(x, 0, 1, 0, 1, last[0], last[1], last[2]);
            Check.finds(x, UNLIKE, "change by " + last[0] + ", " + last[1] + ", " + last[2],
                    () -> x.change(0, 0, 0, 99));
        }
        Make.fill(x, 0, 2, 4055, 1, 0, Integer.MAX_VALUE, 50);
        Check.tells(x, "dates that are none quarrel", x.change(3, 0, 0, 9), 0, 2);
    }

    private static void rent() {
        LostDays x = Make.towns(Make.FIVE);
        dueRent(x, 1, 101, 0, 101, 101, 1);
        dueRent(x, 1, 7, 0, 1, 7, 101);
        dueRent(x, 1, 7, 101, 102, 7, 100);
        dueRent(x, 1, 1, 100, 102, 201, 10100);
        dueRent(x, 4, 9999, 0, 98, 9999, 1);
        dueRent(x, 4, 1, 19998, 19999, 1, 98);
        dueRent(x, 2, 100, 400, 491, 91, 1);
        dueRent(x, 1, 9999, 0, 400, 9999 * (101L * 100 + 299 * 101), 10100);
        dueRent(x, 0, 0, 0, 400, 0, 1);
        dueRent(x, 0, 17, 3, 3, 0, 1);
        dueRent(x, 3, 100, 549, 551, 2, 1);
        Check.due("rent(0, 1, 0, 401)", x.rent(0, 1, 0, 401), LostDays.BAD);
        Check.due("rent(0, 1, 5, 4)", x.rent(0, 1, 5, 4), LostDays.BAD);
        Check.due("rent(0, 1, -1, 4)", x.rent(0, 1, -1, 4), LostDays.BAD);
        Check.due("rent(0, 1, 19999, 20000)", x.rent(0, 1, 19999, 20000), LostDays.BAD);
        Check.due("rent(0, 10000, 0, 1)", x.rent(0, 10000, 0, 1), LostDays.BAD);
        Check.due("rent(0, -1, 0, 1)", x.rent(0, -1, 0, 1), LostDays.BAD);
        Check.due("rent(5, 1, 0, 1)", x.rent(5, 1, 0, 1), LostDays.BAD);
        Check.due("upper() is kept", x.upper(), 2);
        Check.due("lower() is kept", x.lower(), 1);
        Check.due("asked() is not told", x.asked(), 0);
    }

    private static void dueRent(LostDays x, int c, int v, int from, int to, long upper, long lower) {
        String call = "rent(" + c + ", " + v + ", " + from + ", " + to + ")";
        long common = java.math.BigInteger.valueOf(upper).gcd(java.math.BigInteger.valueOf(lower)).longValue();
        Check.due(call, x.rent(c, v, from, to), 1);
        Check.due(call + ", upper()", x.upper(), upper / common);
        Check.due(call + ", lower()", x.lower(), lower / common);
    }
}
