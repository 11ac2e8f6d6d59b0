/** Promises 17 to 20: today, almanacs kept and gone on from. */
public final class TodayTest {
    private static final int NOTHING = 1;

    public static void main(String[] args) {
        go();
        back();
        keepAndOn();
        Check.end();
    }

    private static void go() {
        LostDays none = new LostDays();
        Check.due("go(-1) without towns", none.go(-1), LostDays.BAD);
        Check.due("go(10000) without towns", none.go(10000), LostDays.BAD);
        Check.due("go(0) without towns", none.go(0), LostDays.STATE);
        LostDays x = Make.towns(Make.FIVE);
        Check.due("go(0)", x.go(0), 0);
        Check.due("go(9999)", x.go(9999), 9999);
        Check.due("go(9999)", x.go(9999), 19998);
        Check.due("go(2)", x.go(2), LostDays.SPENT);
        Check.due("go(10000)", x.go(10000), LostDays.BAD);
        Check.due("go(-1)", x.go(-1), LostDays.BAD);
        Check.due("go(1)", x.go(1), 19999);
        Check.due("go(1)", x.go(1), LostDays.SPENT);
        Check.due("go(0)", x.go(0), 19999);
        Check.due("count(1)", x.count(1), 19999);
    }

    private static void back() {
        LostDays none = new LostDays();
        Check.due("back(0) without towns", none.back(0), 0);
        Check.due("back(1) without towns", none.back(1), LostDays.BAD);
        LostDays x = Make.towns(Make.FIVE);
        x.go(500);
        Check.due("back(-1)", x.back(-1), LostDays.BAD);
        Check.due("back(501)", x.back(501), LostDays.BAD);
        Check.due("back(1)", x.back(1), 499);
        Check.due("back(499)", x.back(499), 0);
        Check.due("back(0)", x.back(0), 0);
    }

    private static void keepAndOn() {
        LostDays none = new LostDays();
        Check.due("keep(3) without towns", none.keep(3), LostDays.BAD);
        Check.due("keep(0) without towns", none.keep(0), LostDays.STATE);
        LostDays x = Make.towns(Make.FIVE);
        Check.due("keep(-1)", x.keep(-1), LostDays.BAD);
        Check.due("on(3)", x.on(3), LostDays.BAD);
        Check.due("on(-1)", x.on(-1), LostDays.BAD);
        Check.finds(x, NOTHING, "on(2)", () -> x.on(2));
        x.go(100);
        Check.due("keep(2)", x.keep(2), 100);
        long digest = x.digest();
        x.go(900);
        x.order(2, 1);
        x.gap(3, 2);
        x.leap(1, 9);
        x.order(4, 77);
        x.gap(0, 8);
        Check.due("keep(0)", x.keep(0), 1000);
        Check.due("count(6)", x.count(6), 2);
        Check.due("on(2)", x.on(2), 100);
        Check.tells(x, "town(2, 2)", x.town(2, 2), 1, 450);
        Check.tells(x, "town(3, 3)", x.town(3, 3), 1, 7);
        Check.tells(x, "town(1, 1)", x.town(1, 1), 1, 4);
        Check.tells(x, "town(4, 2)", x.town(4, 2), 1, 9999);
        Check.tells(x, "town(0, 3)", x.town(0, 3), 1, 0);
        Check.that("another almanac is kept by now", x.digest() != digest);
        Check.due("on(2) again", x.on(2), 100);
        Check.due("on(0)", x.on(0), 1000);
        Check.tells(x, "town(2, 2)", x.town(2, 2), 1, 1);
        Check.tells(x, "town(3, 3)", x.town(3, 3), 1, 2);
        Check.tells(x, "town(1, 1)", x.town(1, 1), 1, 9);
        Check.tells(x, "town(4, 2)", x.town(4, 2), 1, 77);
        Check.tells(x, "town(0, 3)", x.town(0, 3), 1, 8);
        x.back(1000);
        Check.due("keep(0) anew", x.keep(0), 0);
        x.go(5);
        Check.due("on(0)", x.on(0), 0);
    }
}
