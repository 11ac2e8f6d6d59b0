/** Boundary cases of promises 31 to 33, sentence by sentence: agreeing. */
public final class AgreeEdgeTest {
    private static final int LEAST = Edge.LEAST, MOST = Edge.MOST;

    /** By leap 9 year 0 puts an ordered one a day behind, its gap of 1 on day 200 puts it right again till year 9. */
    private static final String AGAIN = "c200000 o902001 x204509";

    private static final String LONG = "l200000 l400000";

    public static void main(String[] args) {
        numbers("31 agree", "agree");
        agree();
        till();
        numbers("33 apart", "apart");
        apart();
        apartFirst();
        Check.end();
    }

    private static void numbers(String promise, String name) {
        new Edge(promise + ": TOWNS", Make::full).within(0, 0, 4, name, 0, 1, 5, 9).within(1, 0, 4, name, 2, 0, 5, 9);
        new Edge(promise + ": DAYS from 0", Make::full).within(2, 0, 9, name, 0, 2, 5, 9);
        new Edge(promise + ": DAYS to 19999", Make::full).within(3, 5, 19999, name, 0, 2, 5, 9);
        new Edge(promise + ": the second below the first", Make::full).bad(name, 0, 2, 9, 8).bad(name, 0, 2, 19999, 0)
                .bad(name, 0, 2, MOST, LEAST).bad(name, 0, 2, 19999, 19998);
        new Edge(promise + ": DAYS that are none", Make::full).bad(name, 0, 2, LEAST, MOST).bad(name, 0, 2, 20000, 20000)
                .bad(name, 0, 2, -1, -1);
        new Edge(promise + ": no TOWNS", x -> { }).bad(name, 0, 0, 0, 0);
    }

    private static void agree() {
        new Edge("31 agree: both, too", Make::full).tells(1, 449, "agree", 0, 2, 449, 449)
                .tells(0, LostDays.NONE, "agree", 0, 2, 450, 450).tells(2, 448, "agree", 0, 2, 448, 449)
                .tells(1, 449, "agree", 0, 2, 449, 450).tells(450, 0, "agree", 0, 2, 0, 19999);
        new Edge("31 agree: none, the first is NONE", Make::full).tells(0, LostDays.NONE, "agree", 0, 2, 450, 19999);
        new Edge("31 agree: all", Make::full).tells(20000, 0, "agree", 2, 2, 0, 19999)
                .tells(1, 19999, "agree", 2, 2, 19999, 19999).tells(1, 0, "agree", 0, 3, 0, 0);
        new Edge("31 agree: years of their own", Make::full).tells(98, 0, "agree", 0, 3, 0, 98)
                .tells(0, LostDays.NONE, "agree", 0, 3, 98, 19999).tells(1, 97, "agree", 0, 3, 97, 98);
        new Edge("31 agree: again", Make.on(0, AGAIN)).tells(100, 0, "agree", 0, 1, 0, 199)
                .tells(101, 0, "agree", 0, 1, 0, 200).tells(1, 200, "agree", 0, 1, 100, 200)
                .tells(0, LostDays.NONE, "agree", 0, 1, 100, 199).tells(800, 200, "agree", 0, 1, 100, 19999)
                .tells(1, 999, "agree", 0, 1, 999, 1000).tells(0, LostDays.NONE, "agree", 0, 1, 1000, 1000);
        // YEARS 0 are long in both, YEARS 2 but in one: day 301 is 2100 there, and 3000 here
        new Edge("31 agree: long YEARS", Make.on(0, LONG)).tells(301, 0, "agree", 0, 1, 0, 300)
                .tells(301, 0, "agree", 0, 1, 0, 301).tells(301, 0, "agree", 1, 0, 0, 19999)
                .tells(0, LostDays.NONE, "agree", 0, 1, 301, 19999);
    }

    private static void till() {
        new Edge("32 till: TOWNS", Make::full).within(0, 0, 4, "till", 0, 2).within(1, 0, 4, "till", 0, 2);
        new Edge("32 till: no TOWNS", x -> { }).bad("till", 0, 0);
        new Edge("32 till: 0: today", Make.on(99, AGAIN)).is(0, "till", 0, 1);
        new Edge("32 till: from today on", Make.on(100, AGAIN)).is(100, "till", 0, 1).is(100, "till", 1, 0);
        new Edge("32 till: tomorrow", Make.on(199, AGAIN)).is(1, "till", 0, 1);
        new Edge("32 till: today again", Make.on(200, AGAIN)).is(0, "till", 0, 1);
        new Edge("32 till: the last time", Make.on(999, AGAIN)).is(0, "till", 0, 1);
        new Edge("32 till: NONE: never", Make.on(1000, AGAIN)).none("till", 0, 1);
        new Edge("32 till: the eve of an ORDER", Make.on(449, AGAIN)).is(0, "till", 0, 2);
        new Edge("32 till: NONE from the ORDER on", Make.on(450, AGAIN)).none("till", 0, 2).none("till", 2, 0);
        new Edge("32 till: on the last DAY", Make.on(19999, AGAIN)).is(0, "till", 2, 2).none("till", 0, 2);
        new Edge("32 till: a long YEAR's eve", Make.on(300, LONG)).is(0, "till", 0, 1);
        new Edge("32 till: a long YEAR's last DAY", Make.on(301, LONG)).none("till", 0, 1).none("till", 1, 0);
        new Edge("32 till: on the first DAY", Make.on(0, AGAIN)).is(0, "till", 0, 1).is(0, "till", 1, 1);
    }

    private static void apart() {
        new Edge("33 apart: both, too", Make::full).tells(0, 448, "apart", 0, 2, 448, 449)
                .tells(9, 450, "apart", 0, 2, 449, 450).tells(9, 450, "apart", 0, 2, 450, 450)
                .tells(0, 449, "apart", 0, 2, 449, 449).tells(9, 451, "apart", 2, 0, 451, 19999)
                .tells(9, 19999, "apart", 0, 2, 19999, 19999);
        new Edge("33 apart: a TOWN from itself", Make::full).tells(0, 0, "apart", 4, 4, 0, 19999)
                .tells(0, 19999, "apart", 4, 4, 19999, 19999);
        new Edge("33 apart: GAP 0", Make.on(0, "c200000 d200000")).tells(0, 0, "apart", 0, 1, 0, 19999);
        new Edge("33 apart: twice 9", Make.on(0, "c200000 d299999")).tells(0, 0, "apart", 0, 1, 0, 9998)
                .tells(9, 9999, "apart", 0, 1, 0, 10998).tells(18, 10999, "apart", 1, 0, 0, 10999)
                .tells(18, 10999, "apart", 0, 1, 0, 19999);
        new Edge("33 apart: ORDER 0", Make.on(0, "c200000 x200009")).tells(9, 0, "apart", 0, 1, 0, 0);
    }

    private static void apartFirst() {
        // 9 on 10 .. 19, 4 from 20 on: the most is not the last
        Edge e = new Edge("33 apart: the first such DAY", Make.on(0, "x200109 o200205"));
        e.tells(9, 10, "apart", 0, 1, 0, 19999).tells(9, 19, "apart", 0, 1, 19, 25).tells(4, 20, "apart", 0, 1, 20, 25);
        // 5 either way: first by the one, then by the other
        new Edge("33 apart: either way", Make.on(0, "x200105 d200205")).tells(5, 10, "apart", 0, 1, 0, 19999)
                .tells(5, 10, "apart", 1, 0, 0, 1019).tells(0, 20, "apart", 0, 1, 20, 1019)
                .tells(5, 1020, "apart", 0, 1, 20, 19999);
    }
}
