/** Promises 21 to 30: what day it is, and how old one is by it. */
public final class DatesTest {
    private static final int NOUGHT = 4;
    private static final int MOST = Integer.MAX_VALUE;

    public static void main(String[] args) {
        date();
        day();
        year();
        same();
        between();
        where();
        left();
        dates();
        age();
        eldest();
        Check.end();
    }

    private static void date() {
        LostDays x = Make.towns("l200000 o200009 d201009");
        Check.due("the last day of a long year", x.date(0, 100), 100);
        Check.due("the first one of the next", x.date(0, 101), 1000);
        Check.due("its last", x.date(0, 200), 1099);
        Check.due("the next long one", x.date(0, 201), 2000);
        Check.due("its last", x.date(0, 301), 2100);
        Check.due("day 0 by order 0", x.date(1, 0), 9);
        Check.due("before the order", x.date(2, 99), 99);
        Check.due("from the order on", x.date(2, 100), 1009);
        Check.due("before the second", x.date(2, 1099), 11008);
        Check.due("from the second on", x.date(2, 1100), 11018);
        Check.due("the last of all", x.date(2, 19999), 200017);
        Check.due("date(0, 20000)", x.date(0, 20000), LostDays.BAD);
        Check.due("date(0, -1)", x.date(0, -1), LostDays.BAD);
        Check.due("date(3, 0)", x.date(3, 0), LostDays.BAD);
        Check.due("date(-1, 0)", x.date(-1, 0), LostDays.BAD);
    }

    private static void day() {
        LostDays x = Make.towns("d201009 l200000 m200000 o200009 c200000");
        Check.due("day(0, 99)", x.day(0, 99), 99);
        Check.finds(x, NOUGHT, "the first left out", () -> x.day(0, 1000));
        Check.finds(x, NOUGHT, "the last left out", () -> x.day(0, 1008));
        Check.due("day(0, 1009)", x.day(0, 1009), 100);
        Check.due("day(0, 11008)", x.day(0, 11008), 1099);
        Check.finds(x, NOUGHT, "the first left out again", () -> x.day(0, 11009));
        Check.finds(x, NOUGHT, "the last left out again", () -> x.day(0, 11017));
        Check.due("day(0, 11018)", x.day(0, 11018), 1100);
        Check.due("day(0, 200017)", x.day(0, 200017), 19999);
        Check.finds(x, NOUGHT, "of a day above 19999", () -> x.day(0, 200018));
        Check.due("day(1, 2100)", x.day(1, 2100), 301);
        Check.finds(x, NOUGHT, "day(1, 1100)", () -> x.day(1, 1100));
        Check.finds(x, NOUGHT, "day(2, 98)", () -> x.day(2, 98));
        Check.due("day(2, 97)", x.day(2, 97), 97);
        Check.finds(x, NOUGHT, "day(3, 0)", () -> x.day(3, 0));
        Check.due("day(3, 9)", x.day(3, 9), 0);
        Check.finds(x, NOUGHT, "day(4, 999)", () -> x.day(4, 999));
        Check.finds(x, NOUGHT, "day(4, 200000)", () -> x.day(4, 200000));
        Check.due("day(4, 199099)", x.day(4, 199099), 19999);
        for (int c = 0; c < 5; c++) {
            int town = c;
            Check.finds(x, NOUGHT, "day(" + c + ", most)", () -> x.day(town, MOST));
            Check.finds(x, NOUGHT, "day(" + c + ", 2147483000)", () -> x.day(town, 2147483000));
        }
        Check.due("day(0, -1)", x.day(0, -1), LostDays.BAD);
        Check.due("day(5, 0)", x.day(5, 0), LostDays.BAD);
        Check.due("day(-1, 0)", x.day(-1, 0), LostDays.BAD);
    }

    private static void year() {
        LostDays x = Make.towns("x202959 l400000 m200000 c200000");
        Check.tells(x, "a gap over the end of a year", x.year(0, 2), 100, 95);
        Check.tells(x, "and in the next year", x.year(0, 3), 100, 96);
        Check.tells(x, "the first year", x.year(0, 0), 100, 100);
        Check.tells(x, "year 250", x.year(2, 250), 98, 0);
        Check.tells(x, "a long year", x.year(1, 4), 101, 101);
        Check.tells(x, "a year of moons", x.year(2, 204), 98, 8);
        Check.tells(x, "the last of all", x.year(3, 199), 100, 100);
        Check.tells(x, "beyond the last", x.year(3, 200), 100, 0);
        Check.tells(x, "year(1, 248)", x.year(1, 248), 101, 0);
        Check.due("year(0, 251)", x.year(0, 251), LostDays.BAD);
        Check.due("year(0, -1)", x.year(0, -1), LostDays.BAD);
        Check.due("year(4, 0)", x.year(4, 0), LostDays.BAD);
        Check.due("year(-1, 0)", x.year(-1, 0), LostDays.BAD);
    }

    private static void same() {
        LostDays x = Make.towns(Make.FIVE);
        Check.due("same(0, 4050, 2)", x.same(0, 4050, 2), 4059);
        Check.due("same(2, 4059, 0)", x.same(2, 4059, 0), 4050);
        Check.due("same(0, 0, 4)", x.same(0, 0, 4), 0);
        Check.due("same(4, 1000, 1)", x.same(4, 1000, 1), 98);
        Check.due("same(1, 100, 1)", x.same(1, 100, 1), 100);
        Check.finds(x, NOUGHT, "same(2, 4050, 0)", () -> x.same(2, 4050, 0));
        Check.due("same(0, -1, 1)", x.same(0, -1, 1), LostDays.BAD);
        Check.due("same(5, 0, 1)", x.same(5, 0, 1), LostDays.BAD);
        Check.due("same(0, 0, 5)", x.same(0, 0, 5), LostDays.BAD);
        Check.due("same(2, 4050, -1)", x.same(2, 4050, -1), LostDays.BAD);
    }

    private static void between() {
        LostDays x = Make.towns(Make.FIVE);
        Check.tells(x, "over a gap", x.between(2, 4000, 5000), 1, 91);
        Check.tells(x, "the other way", x.between(2, 5000, 4000), 1, -91);
        Check.tells(x, "over a long year", x.between(1, 0, 1000), 1, 101);
        Check.tells(x, "no day", x.between(1, 3000, 3000), 1, 0);
        Check.finds(x, NOUGHT, "the first is none", () -> x.between(2, 4050, 0));
        Check.finds(x, NOUGHT, "the second is none", () -> x.between(2, 0, 4050));
        Check.due("between(5, 0, 0)", x.between(5, 0, 0), LostDays.BAD);
        Check.due("between(0, -1, 100)", x.between(0, -1, 100), LostDays.BAD);
        Check.due("between(0, 100, -1)", x.between(0, 100, -1), LostDays.BAD);
        Check.due("asked() is kept", x.asked(), 0);
    }

    private static void where() {
        LostDays x = Make.towns(Make.FIVE);
        Check.tells(x, "where(99, 99)", x.where(99, 99), 4, 15);
        Check.tells(x, "where(99, 1001)", x.where(99, 1001), 1, 16);
        Check.tells(x, "where(100, 100)", x.where(100, 100), 2, 10);
        Check.tells(x, "where(100, 999)", x.where(100, 999), 0, 0);
        Check.due("where(20000, 0)", x.where(20000, 0), LostDays.BAD);
        Check.due("where(-1, 0)", x.where(-1, 0), LostDays.BAD);
        Check.due("where(0, -1)", x.where(0, -1), LostDays.BAD);
        LostDays none = new LostDays();
        Check.tells(none, "where(0, 0) without towns", none.where(0, 0), 0, 0);
    }

    private static void left() {
        LostDays x = Make.towns("d202953 o400002 l200009 m200009 x200000");
        Check.due("left(0, 5)", x.left(0, 5), 6);
        int[] want = {2095, 2096, 2097, 12098, 12099, 13000};
        for (int i = 0; i < want.length; i++) {
            Check.due("place " + i, Make.place(x, 5, i), want[i]);
        }
        Check.due("left(1, 5)", x.left(1, 5), 2);
        Check.due("place 0", Make.place(x, 5, 0), 0);
        Check.due("place 1", Make.place(x, 5, 1), 1);
        Check.due("the row is made anew", x.at(5, 2), LostDays.FINDING);
        for (int c = 2; c < 5; c++) {
            Check.due("left(" + c + ", 4)", x.left(c, 4), 0);
        }
        Check.due("count(4)", x.count(4), 2);
        Check.due("left(5, 0)", x.left(5, 0), LostDays.BAD);
        Check.due("left(-1, 0)", x.left(-1, 0), LostDays.BAD);
        Check.due("left(0, 6)", x.left(0, 6), LostDays.BAD);
        Check.due("left(0, -1)", x.left(0, -1), LostDays.BAD);
        Check.due("count(4)", x.count(4), 2);
    }

    private static void dates() {
        LostDays x = Make.towns(Make.FIVE);
        Check.due("dates(2, 430, 469, 0)", x.dates(2, 430, 469, 0), 40);
        Check.due("place 0", Make.place(x, 0, 0), 4030);
        Check.due("place 19", Make.place(x, 0, 19), 4049);
        Check.due("place 20", Make.place(x, 0, 20), 4059);
        Check.due("place 39", Make.place(x, 0, 39), 4078);
        Check.due("dates(1, 19999, 19999, 0)", x.dates(1, 19999, 19999, 0), 1);
        Check.due("place 0", Make.place(x, 0, 0), 199049);
        Check.due("the row is made anew", x.at(0, 1), LostDays.FINDING);
        Check.due("41 days", x.dates(0, 0, 40, 0), LostDays.BAD);
        Check.due("the second below the first", x.dates(0, 5, 4, 0), LostDays.BAD);
        Check.due("from -1", x.dates(0, -1, 4, 0), LostDays.BAD);
        Check.due("to 20000", x.dates(0, 19999, 20000, 0), LostDays.BAD);
        Check.due("from the least to the most", x.dates(0, Integer.MIN_VALUE, MOST, 0), LostDays.BAD);
        Check.due("dates(5, 0, 1, 0)", x.dates(5, 0, 1, 0), LostDays.BAD);
        Check.due("dates(0, 0, 1, 6)", x.dates(0, 0, 1, 6), LostDays.BAD);
        Check.due("dates(0, 0, 1, -1)", x.dates(0, 0, 1, -1), LostDays.BAD);
        Check.due("place 0 is kept", Make.place(x, 0, 0), 199049);
    }

    private static void age() {
        LostDays x = Make.towns(Make.FIVE);
        x.go(450);
        Check.due("born today", x.age(2, 4059), 0);
        Check.due("born on date 0", x.age(0, 0), 4);
        Check.due("the day of the year was left out", x.age(2, 3055), 0);
        Check.due("born on the eve's day", x.age(2, 49), 4);
        Check.due("its day comes today", x.age(2, 59), 4);
        Check.due("its day comes tomorrow", x.age(2, 60), 3);
        Check.due("on the last of a long year", x.age(1, 100), 0);
        Check.due("tomorrow", x.age(0, 4051), LostDays.STATE);
        Check.finds(x, NOUGHT, "left out", () -> x.age(2, 4050));
        Check.finds(x, NOUGHT, "later, and none", () -> x.age(0, 250000));
        Check.due("age(0, -1)", x.age(0, -1), LostDays.BAD);
        Check.due("age(5, 0)", x.age(5, 0), LostDays.BAD);
        x.go(55);
        Check.due("on the last of a long year, again", x.age(1, 100), 1);
        Check.due("that which was left out, passed over", x.age(2, 3055), 0);
        x.go(100);
        Check.due("and come again", x.age(2, 3055), 1);
    }

    private static void eldest() {
        LostDays none = new LostDays();
        Check.due("eldest(0) without towns", none.eldest(0), LostDays.NONE);
        Check.due("eldest(1) without towns", none.eldest(1), LostDays.BAD);
        LostDays x = Make.towns(Make.FIVE);
        Check.tells(x, "eldest(0)", x.eldest(0), 0, 0);
        x.go(98);
        Check.tells(x, "eldest(0)", x.eldest(0), 4, 1);
        x.go(2);
        Check.tells(x, "eldest(0)", x.eldest(0), 0, 1);
        Check.tells(x, "eldest(100)", x.eldest(100), 0, 0);
        Check.due("eldest(101)", x.eldest(101), LostDays.BAD);
        Check.due("eldest(-1)", x.eldest(-1), LostDays.BAD);
        x.go(410);
        Check.tells(x, "eldest(10)", x.eldest(10), 0, 5);
        Check.tells(x, "eldest(19)", x.eldest(19), 2, 5);
    }
}
