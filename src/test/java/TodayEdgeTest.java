/** Boundary cases of promises 17 to 20, sentence by sentence: today, almanacs kept. */
public final class TodayEdgeTest {
    private static final int LEAST = Edge.LEAST, MOST = Edge.MOST;

    public static void main(String[] args) {
        go();
        goSpent();
        back();
        keep();
        on();
        keptIsAsItWas();
        keptAnew();
        keptOfEachTown();
        Check.end();
    }

    private static void go() {
        new Edge("17 go: n 0 .. 9999", Make::full).within(0, 0, 9999, "go", 0);
        new Edge("17 go: what DAY is today", Make::full).is(700, "go", 0).is(701, "go", 1).is(10699, "go", 9999);
        new Edge("17 go: STATE: no TOWNS", x -> { }).state("go", 0).state("go", 1).state("go", 9999);
        new Edge("17 go: STATE: an ALMANAC without TOWNS", x -> {
            Make.full(x);
            x.almanac(1);
        }).state("go", 0).state("go", 9999);
        new Edge("17 go: not STATE: one TOWN", Make.on(0, "c200000")).is(0, "go", 0).is(9999, "go", 9999);
        new Edge("17 go: BAD ahead of STATE", x -> { }).bad("go", -1).bad("go", 10000).bad("go", LEAST).bad("go", MOST);
    }

    private static void goSpent() {
        new Edge("17 go: SPENT: above 19999", Make.on(19998, Make.FULL)).is(19998, "go", 0).is(19999, "go", 1)
                .spent("go", 2).spent("go", 9999);
        new Edge("17 go: SPENT on the last DAY", Make.on(19999, Make.FULL)).is(19999, "go", 0).spent("go", 1)
                .spent("go", 9999);
        new Edge("17 go: SPENT by the longest way", Make.on(10000, Make.FULL)).is(19999, "go", 9999);
        new Edge("17 go: SPENT by the longest way", Make.on(10001, Make.FULL)).is(19999, "go", 9998).spent("go", 9999);
        new Edge("17 go: BAD ahead of SPENT", Make.on(19999, Make.FULL)).bad("go", -1).bad("go", 10000).bad("go", MOST);
    }

    private static void back() {
        new Edge("18 back: n below 0, or more than today's number", Make::full).within(0, 0, 700, "back", 0);
        new Edge("18 back: what DAY it is", Make::full).is(700, "back", 0).is(699, "back", 1).is(1, "back", 699)
                .is(0, "back", 700);
        new Edge("18 back: on DAY 0", Make.on(0, Make.FULL)).is(0, "back", 0).bad("back", 1).bad("back", -1);
        new Edge("18 back: on DAY 1", Make.on(1, Make.FULL)).is(0, "back", 1).bad("back", 2);
        new Edge("18 back: all of the way", Make.on(19999, Make.FULL)).is(0, "back", 19999).bad("back", 20000);
        new Edge("18 back: without TOWNS", x -> { }).is(0, "back", 0).bad("back", 1).bad("back", -1);
    }

    private static void keep() {
        new Edge("19 keep: a place 0 .. 2", Make::full).within(0, 0, 2, "keep", 0);
        new Edge("19 keep: today", Make::full).is(700, "keep", 0).is(700, "keep", 1).is(700, "keep", 2);
        new Edge("19 keep: on DAY 0, with one TOWN", Make.on(0, "m200000")).is(0, "keep", 2);
        new Edge("19 keep: on the last DAY", Make.on(19999, "m200000")).is(19999, "keep", 0);
        new Edge("19 keep: STATE: no TOWNS", x -> { }).state("keep", 0).state("keep", 2);
        new Edge("19 keep: STATE: an ALMANAC without TOWNS", x -> {
            Make.full(x);
            x.almanac(1);
        }).state("keep", 0).state("keep", 1);
        new Edge("19 keep: BAD ahead of STATE", x -> { }).bad("keep", -1).bad("keep", 3).bad("keep", LEAST).bad("keep", MOST);
    }

    private static void on() {
        new Edge("20 on: a place 0 .. 2", Make::full).within(0, 0, 2, "on", 0);
        new Edge("20 on: NOTHING", Make::full).nothing("on", 1).is(10, "on", 0).is(300, "on", 2);
        new Edge("20 on: NOTHING without TOWNS", x -> { }).nothing("on", 0).nothing("on", 1).nothing("on", 2);
        new Edge("20 on: BAD ahead of NOTHING", x -> { }).bad("on", -1).bad("on", 3).bad("on", LEAST).bad("on", MOST);
    }

    private static void keptIsAsItWas() {
        LostDays x = Make.full();
        x.on(2);
        int[][] want = {{0, 2, 0, 0, 3000}, {4, 5, 550, 6, 2099}, {2, 2, 460, 9, 3000}, {3, 2, 9999, 5, 3006},
            {5, 3, 120, 3, 3003}};
        // by leap 5 years begin on 0, 101, 201, 301, so day 300 is the last one of year 2
        for (int c = 0; c < 5; c++) {
            for (int what = 0; what <= 4; what++) {
                Check.tells(x, "20 on: town(" + c + ", " + what + ")", x.town(c, what), 1, want[c][what]);
            }
        }
        Check.due("20 on: it stays kept", x.count(6), 2);
        Check.due("20 on: ROWS are as they were", x.count(4), 5);
        Check.due("20 on: TEXTS are as they were", x.count(5), 3);
        Make.dueRow(x, "20 on: a ROW is as it was", 5, 7, -7, 77, 1, 2);
        x.go(1);
        x.order(2, 1);
        Check.due("20 on: again", x.on(2), 300);
        Check.tells(x, "20 on: again, the ORDER", x.town(2, 2), 1, 460);
        Check.due("20 on: the other one", x.on(0), 10);
        Check.tells(x, "20 on: the other one's ORDER", x.town(2, 2), 1, 450);
        Check.tells(x, "20 on: the other one's LEAP", x.town(1, 1), 1, 4);
        Check.tells(x, "20 on: the other one's GAP", x.town(1, 3), 1, 7);
    }

    private static void keptAnew() {
        LostDays x = Make.full();
        x.gap(4, 9);
        x.keep(2);
        Check.due("19 keep: over an older one", x.count(6), 2);
        x.on(0);
        Check.due("20 on: the newer one", x.on(2), 700);
        Check.tells(x, "20 on: the newer one's GAP", x.town(4, 3), 1, 9);
        Check.tells(x, "20 on: the newer one's ORDER", x.town(2, 2), 1, 450);
        x.keep(1);
        Check.due("19 keep: all three", x.count(6), 3);
    }

    private static void keptOfEachTown() {
        for (int c = 0; c < 5; c++) {
            LostDays x = Make.full();
            x.order(c, 9998);
            x.gap(c, 8);
            x.leap(c, 8);
            x.keep(1);
            long digest = x.digest();
            x.order(c, 1);
            x.gap(c, 1);
            x.leap(c, 7);
            x.go(1);
            Check.that("19 keep: TOWN " + c + " goes on", x.digest() != digest);
            x.on(1);
            Check.due("20 on: TOWN " + c + " is as it was kept", x.digest(), digest);
        }
    }
}
