/** Promises 41 to 46: moons, feasts, leaps, lots. */
public final class FeastsTest {
    public static void main(String[] args) {
        moon();
        feast();
        together();
        keeps();
        fails();
        lots();
        Check.end();
    }

    private static void moon() {
        LostDays x = new LostDays();
        java.util.TreeSet<Integer> full = new java.util.TreeSet<>();
        for (int k = 0; k < 400; k++) {
            full.add(59 * k);
            full.add(59 * k + 29);
        }
        for (int day = 0; day <= 400; day++) {
            Check.tells(x, "moon(" + day + ")", x.moon(day), full.contains(day) ? 1 : 0, full.ceiling(day) - day);
        }
        Check.tells(x, "moon(19999)", x.moon(19999), 0, 2);
        Check.due("moon(20000)", x.moon(20000), LostDays.BAD);
        Check.due("moon(-1)", x.moon(-1), LostDays.BAD);
        Check.due("asked() is kept", x.asked(), 2);
    }

    private static void feast() {
        LostDays x = Make.towns("c200000 x201207 m200000 l200000 d901005");
        Check.due("feast(0, 0)", x.feast(0, 0), 29);
        Check.due("feast(0, 1)", x.feast(0, 1), 147);
        Check.due("day 20 is left out: from day 27 of the year, 120", x.feast(1, 1), 147);
        x.order(1, 117);
        x.gap(1, 9);
        Check.due("day 20 is left out: from day 26 of the year, 117", x.feast(1, 1), 118);
        x.order(1, 119);
        x.gap(1, 2);
        Check.due("day 20 is left out: from day 21 of the year, 119", x.feast(1, 1), 147);
        x.order(1, 118);
        Check.due("on the very day", x.feast(1, 1), 118);
        Check.due("feast(2, 1)", x.feast(2, 1), 118);
        Check.due("feast(2, 150)", x.feast(2, 150), 14720 + (14720 % 59 <= 29 ? 29 : 59) - 14720 % 59);
        Check.due("feast(3, 150)", x.feast(3, 150), 15095 + (15095 % 59 <= 29 ? 29 : 59) - 15095 % 59);
        Check.due("feast(0, 151)", x.feast(0, 151), LostDays.BAD);
        Check.due("feast(0, -1)", x.feast(0, -1), LostDays.BAD);
        Check.due("feast(5, 0)", x.feast(5, 0), LostDays.BAD);
        Check.due("feast(-1, 0)", x.feast(-1, 0), LostDays.BAD);
        Check.due("asked() is not told", x.asked(), 0);
    }

    private static void together() {
        LostDays x = Make.towns("c200000 x201173 m200000");
        Check.due("before the order", x.together(0, 1, 0, 0), 1);
        Check.due("year 1: 147, and 118 by day 20 on 117", x.together(0, 1, 1, 1), 0);
        Check.due("years 0 and 1", x.together(0, 1, 0, 1), 1);
        Check.due("a town with itself", x.together(2, 2, 0, 150), 151);
        Check.due("together(0, 1, 5, 4)", x.together(0, 1, 5, 4), LostDays.BAD);
        Check.due("together(0, 1, -1, 4)", x.together(0, 1, -1, 4), LostDays.BAD);
        Check.due("together(0, 1, 0, 151)", x.together(0, 1, 0, 151), LostDays.BAD);
        Check.due("together(3, 1, 0, 1)", x.together(3, 1, 0, 1), LostDays.BAD);
        Check.due("together(0, -1, 0, 1)", x.together(0, -1, 0, 1), LostDays.BAD);
        int years = 0;
        for (int y = 0; y <= 150; y++) {
            years += x.feast(0, y) == x.feast(2, y) ? 1 : 0;
        }
        Check.due("together(0, 2, 0, 150)", x.together(0, 2, 0, 150), years);
    }

    private static void keeps() {
        LostDays x = new LostDays();
        // with its own leap it is ahead by less than a day, and never behind
        for (int k = 2; k <= 9; k++) {
            Check.due("keeps(0, " + k + ", 150)", x.keeps(0, k, 150), LostDays.NONE);
        }
        Check.due("keeps(1, 2, 150)", x.keeps(1, 2, 150), 2);
        Check.due("keeps(1, 9, 150)", x.keeps(1, 9, 150), 9);
        Check.due("keeps(1, 9, 1)", x.keeps(1, 9, 1), 2);
        Check.due("keeps(99, 9, 150)", x.keeps(99, 9, 150), 2);
        Check.due("keeps(0, 2, 1)", x.keeps(0, 2, 1), LostDays.NONE);
        // by leap 2 it is 2 - 3/4 ahead at year 3, 1 - 2/4 at year 2, by leap 3 it is 1/4 at year 3
        Check.due("keeps(1, 4, 2)", x.keeps(1, 4, 2), 2);
        Check.due("keeps(1, 4, 3)", x.keeps(1, 4, 3), 3);
        int[][] wrong = {{-1, 2, 1}, {100, 2, 1}, {0, 1, 1}, {0, 10, 1}, {0, 2, 0}, {0, 2, 151}};
        for (int[] a : wrong) {
            Check.due("keeps(" + a[0] + ", " + a[1] + ", " + a[2] + ")", x.keeps(a[0], a[1], a[2]), LostDays.BAD);
        }
    }

    private static void fails() {
        LostDays x = new LostDays();
        Check.due("fails(2, 0, 2)", x.fails(2, 0, 2), 1);
        Check.due("fails(2, 1, 2)", x.fails(2, 1, 2), LostDays.NONE);
        Check.due("fails(2, 1, 4)", x.fails(2, 1, 4), 3);
        Check.due("fails(9, 1, 2)", x.fails(9, 1, 2), 5);
        // behind by just one day does not fail
        Check.due("fails(9, 2, 2)", x.fails(9, 2, 2), 7);
        Check.due("fails(2, 99, 9)", x.fails(2, 99, 9), LostDays.NONE);
        Check.due("fails(2, 59, 9): not by year 150", x.fails(2, 59, 9), LostDays.NONE);
        Check.due("fails(2, 58, 9)", x.fails(2, 58, 9), 149);
        int[][] wrong = {{1, 0, 2}, {10, 0, 2}, {2, -1, 2}, {2, 100, 2}, {2, 0, 1}, {2, 0, 10}};
        for (int[] a : wrong) {
            Check.due("fails(" + a[0] + ", " + a[1] + ", " + a[2] + ")", x.fails(a[0], a[1], a[2]), LostDays.BAD);
        }
    }

    private static void lots() {
        LostDays x = Make.towns("c200000 x299999 c200000");
        // seed 1: 48271, 182605794, 1291394886, 1914720637: days 8271, 5794, 14886, 637
        Check.due("lots(0, 1, 1, 1)", x.lots(0, 1, 1, 1), 1);
        Check.due("lots(0, 1, 2, 1)", x.lots(0, 1, 2, 1), 2);
        Check.due("lots(0, 1, 3, 1)", x.lots(0, 1, 3, 1), 2);
        Check.due("lots(0, 1, 4, 1)", x.lots(0, 1, 4, 1), 3);
        x.order(1, 8271);
        Check.due("lots(0, 1, 4, 1) by an order on 8271", x.lots(0, 1, 4, 1), 2);
        Check.due("lots(0, 2, 40, 2147483646)", x.lots(0, 2, 40, 2147483646), 40);
        Check.due("lots(0, 1, 0, 1)", x.lots(0, 1, 0, 1), LostDays.BAD);
        Check.due("lots(0, 1, 41, 1)", x.lots(0, 1, 41, 1), LostDays.BAD);
        Check.due("lots(0, 1, 1, 0)", x.lots(0, 1, 1, 0), LostDays.BAD);
        Check.due("lots(0, 1, 1, 2147483647)", x.lots(0, 1, 1, 2147483647), LostDays.BAD);
        Check.due("lots(0, 1, 1, -1)", x.lots(0, 1, 1, -1), LostDays.BAD);
        Check.due("lots(3, 1, 1, 1)", x.lots(3, 1, 1, 1), LostDays.BAD);
        Check.due("lots(0, -1, 1, 1)", x.lots(0, -1, 1, 1), LostDays.BAD);
        Check.due("asked() is not told", x.asked(), 0);
    }
}
