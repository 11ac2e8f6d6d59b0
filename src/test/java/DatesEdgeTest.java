/** Boundary cases of promises 21 to 30, sentence by sentence: what day it is, and how old one is by it. */
public final class DatesEdgeTest {
    private static final int LEAST = Edge.LEAST, MOST = Edge.MOST;

    public static void main(String[] args) {
        date();
        day();
        year();
        yearOfDays();
        same();
        between();
        where();
        left();
        leftComesToARow();
        dates();
        datesComeToARow();
        age();
        ageByDays();
        agePassesOver();
        eldest();
        eldestIsTheFirst();
        Check.end();
    }

    private static void date() {
        new Edge("21 date: TOWNS", Make::full).within(0, 0, 4, "date", 0, 5);
        new Edge("21 date: DAYS 0 .. 19999", Make::full).within(1, 0, 19999, "date", 2, 5);
        new Edge("21 date: no TOWNS", x -> { }).bad("date", 0, 0);
        new Edge("21 date: the first and the last", Make::full).is(0, "date", 0, 0).is(199099, "date", 0, 19999)
                .is(200008, "date", 2, 19999).is(204007, "date", 3, 19999).is(200005, "date", 4, 19999);
    }

    private static void day() {
        new Edge("22 day: TOWNS", Make::full).within(0, 0, 4, "day", 0, 5000);
        new Edge("22 day: BAD: also below 0", Make::full).is(0, "day", 0, 0).bad("day", 0, -1).bad("day", 0, LEAST)
                .bad("day", 2, -1).bad("day", 3, -1000);
        new Edge("22 day: BAD ahead of NOUGHT", Make::full).bad("day", 5, 4050).bad("day", -1, 4050);
        new Edge("22 day: NOUGHT: it is none", Make::full).is(449, "day", 2, 4049).nought("day", 2, 4050)
                .nought("day", 2, 4058).is(450, "day", 2, 4059).nought("day", 2, MOST);
        new Edge("22 day: no TOWNS", x -> { }).bad("day", 0, 0);
    }

    private static void year() {
        new Edge("23 year: TOWNS", Make::full).within(0, 0, 4, "year", 0, 5);
        new Edge("23 year: a YEAR 0 .. 250", Make::full).within(1, 0, 250, "year", 1, 5);
        new Edge("23 year: no TOWNS", x -> { }).bad("year", 0, 0);
        new Edge("23 year: by its KIND", Make::full).tells(100, 100, "year", 0, 0).tells(101, 101, "year", 1, 0)
                .tells(98, 98, "year", 3, 0).tells(100, 0, "year", 0, 250).tells(98, 0, "year", 3, 250)
                .tells(101, 0, "year", 1, 248).tells(100, 0, "year", 1, 250);
    }

    private static void yearOfDays() {
        new Edge("23 year: DATES that are DAYS, at the end", Make::full).tells(100, 100, "year", 0, 199)
                .tells(100, 0, "year", 0, 200).tells(100, 9, "year", 2, 200).tells(100, 0, "year", 2, 201)
                .tells(98, 8, "year", 3, 204).tells(98, 0, "year", 3, 205).tells(100, 6, "year", 4, 200);
        new Edge("23 year: left out at its end", Make.on(0, "x203919")).tells(100, 91, "year", 0, 3)
                .tells(100, 100, "year", 0, 4);
        new Edge("23 year: left out from its first DAY on", Make.on(0, "x204009")).tells(100, 100, "year", 0, 3)
                .tells(100, 91, "year", 0, 4);
        new Edge("23 year: left out over both", Make.on(0, "x203999")).tells(100, 99, "year", 0, 3)
                .tells(100, 92, "year", 0, 4);
        new Edge("23 year: none left out", Make.on(0, "x203990")).tells(100, 100, "year", 0, 3);
        new Edge("23 year: left out by ORDER 0", Make.on(0, "o200009")).tells(101, 92, "year", 0, 0);
        new Edge("23 year: a doubled one", Make.on(0, "d204509")).tells(100, 91, "year", 0, 4)
                .tells(100, 91, "year", 0, 14).tells(100, 100, "year", 0, 24);
    }

    private static void same() {
        new Edge("24 same: TOWNS", Make::full).within(0, 0, 4, "same", 0, 5000, 1).within(2, 0, 4, "same", 1, 5000, 1);
        new Edge("24 same: BAD: also below 0", Make::full).is(0, "same", 0, 0, 1).bad("same", 0, -1, 1)
                .bad("same", 2, LEAST, 0);
        new Edge("24 same: NOUGHT", Make::full).is(4049, "same", 2, 4049, 0).nought("same", 2, 4050, 0)
                .nought("same", 2, 4058, 0).is(4050, "same", 2, 4059, 0).nought("same", 2, MOST, 2);
        new Edge("24 same: what is left out there is none here alone", Make::full).is(4059, "same", 0, 4050, 2)
                .is(4068, "same", 0, 4059, 2);
        new Edge("24 same: BAD ahead of NOUGHT", Make::full).bad("same", 2, 4050, 5).bad("same", 5, 4050, 2);
        new Edge("24 same: the last DAY", Make::full).is(204007, "same", 0, 199099, 3).is(199099, "same", 3, 204007, 0)
                .nought("same", 3, 204008, 0).nought("same", 0, 200000, 3);
        new Edge("24 same: perhaps the same TOWN", Make::full).is(4059, "same", 2, 4059, 2);
    }

    private static void between() {
        new Edge("25 between: TOWNS", Make::full).within(0, 0, 4, "between", 0, 5000, 6000);
        new Edge("25 between: NOUGHT: either", Make::full).tells(1, 1, "between", 2, 4049, 4059)
                .nought("between", 2, 4050, 4059).nought("between", 2, 4049, 4058).nought("between", 2, 4050, 4058)
                .nought("between", 2, MOST, 0).nought("between", 2, 0, MOST);
        new Edge("25 between: perhaps below 0", Make::full).tells(1, -1, "between", 2, 4059, 4049)
                .tells(1, 0, "between", 2, 4059, 4059).tells(1, 19999, "between", 0, 0, 199099)
                .tells(1, -19999, "between", 0, 199099, 0);
        new Edge("25 between: BAD ahead of NOUGHT", Make::full).bad("between", 5, 4050, 4050)
                .bad("between", 2, -1, 4050).bad("between", 2, 4050, -1).bad("between", 2, LEAST, 0);
    }

    private static void where() {
        new Edge("26 where: DAYS 0 .. 19999", Make::full).within(0, 0, 19999, "where", 0, 0);
        new Edge("26 where: in all TOWNS, in none", Make::full).tells(5, 31, "where", 0, 0).tells(0, 0, "where", 0, 1)
                .tells(0, 0, "where", 0, MOST).tells(1, 1, "where", 19999, 199099).tells(1, 16, "where", 19999, 200005);
        new Edge("26 where: a DATE below 0 is no number of one", Make::full).bad("where", 0, -1).bad("where", 0, LEAST);
        new Edge("26 where: no TOWNS", x -> { }).tells(0, 0, "where", 0, 0).bad("where", 20000, 0).bad("where", -1, 0);
    }

    private static void left() {
        new Edge("27 left: TOWNS", Make::full).within(0, 0, 4, "left", 0, 4);
        new Edge("27 left: ROWS 0 .. 5", Make::full).within(1, 0, 5, "left", 2, 0);
        new Edge("27 left: no TOWNS", x -> x.row(0, 3)).bad("left", 0, 0);
        new Edge("27 left: how many", Make::full).is(0, "left", 0, 4).is(7, "left", 1, 4).is(9, "left", 2, 4)
                .is(0, "left", 3, 4).is(6, "left", 4, 4);
    }

    private static void dueLeft(String town, int... dates) {
        LostDays x = Make.full();
        Make.towns(x, town);
        Check.due("27 left: '" + town + "' to a full ROW", x.left(0, 0), dates.length);
        Make.dueRow(x, "27 left: '" + town + "' to a full ROW", 0, dates);
        Check.due("27 left: '" + town + "' to a missing ROW", x.left(0, 4), dates.length);
        Make.dueRow(x, "27 left: '" + town + "' to a missing ROW", 4, dates);
        Check.due("27 left: all ROWS are there", x.count(4), 6);
        Make.dueRow(x, "27 left: another ROW is as it was", 5, 7, -7, 77, 1, 2);
    }

    private static void leftComesToARow() {
        dueLeft("c204509");
        dueLeft("l204509");
        dueLeft("m204509");
        dueLeft("x204500");
        dueLeft("d204500");
        dueLeft("x204501", 4050);
        dueLeft("x200002", 0, 1);
        dueLeft("x299992", 99099, 100000);
        // by leap 2 counts 99, 100 end year 0, and 9999 is day 49 of year 99
        dueLeft("o200993", 99, 100, 1000);
        dueLeft("o299992", 99049, 99050);
        dueLeft("d200009", 0, 1, 2, 3, 4, 5, 6, 7, 8, 10009, 10010, 10011, 10012, 10013, 10014, 10015, 10016, 10017);
        dueLeft("d299992", 99099, 100000, 110001, 110002);
    }

    private static void dates() {
        new Edge("28 dates: TOWNS", Make::full).within(0, 0, 4, "dates", 0, 5, 9, 4);
        new Edge("28 dates: ROWS 0 .. 5", Make::full).within(3, 0, 5, "dates", 2, 5, 9, 0);
        new Edge("28 dates: DAYS from 0", Make::full).within(1, 0, 9, "dates", 2, 5, 9, 0);
        new Edge("28 dates: DAYS to 19999", Make::full).within(2, 19970, 19999, "dates", 2, 19970, 19980, 0);
        new Edge("28 dates: the second below the first", Make::full).is(1, "dates", 2, 9, 9, 0).bad("dates", 2, 9, 8, 0)
                .bad("dates", 2, MOST, LEAST, 0);
        new Edge("28 dates: 40 at most", Make::full).is(40, "dates", 2, 0, 39, 0).bad("dates", 2, 0, 40, 0)
                .is(40, "dates", 2, 19960, 19999, 0).bad("dates", 2, 19959, 19999, 0).bad("dates", 2, 0, 19999, 0)
                .bad("dates", 2, LEAST, MOST, 0);
        new Edge("28 dates: no TOWNS", x -> x.row(0, 3)).bad("dates", 0, 0, 0, 0);
    }

    private static void datesComeToARow() {
        LostDays x = Make.full();
        Check.due("28 dates: to a full ROW", x.dates(2, 448, 451, 0), 4);
        Make.dueRow(x, "28 dates: to a full ROW", 0, 4048, 4049, 4059, 4060);
        Check.due("28 dates: to a missing ROW", x.dates(3, 97, 98, 4), 2);
        Make.dueRow(x, "28 dates: to a missing ROW", 4, 97, 1000);
        int[] forty = new int[40];
        for (int i = 0; i < 40; i++) {
            forty[i] = 199060 + i;
        }
        Check.due("28 dates: forty to an empty ROW", x.dates(0, 19960, 19999, 1), 40);
        Make.dueRow(x, "28 dates: forty to an empty ROW", 1, forty);
        Make.dueRow(x, "28 dates: another ROW is as it was", 5, 7, -7, 77, 1, 2);
    }

    private static void age() {
        new Edge("29 age: TOWNS", Make::full).within(0, 0, 4, "age", 0, 5000);
        new Edge("29 age: NOUGHT", Make::full).is(2, "age", 2, 4049).nought("age", 2, 4050).nought("age", 2, 4058)
                .is(2, "age", 2, 4059).nought("age", 2, MOST);
        new Edge("29 age: STATE: later than today", Make::full).is(0, "age", 0, 7000).state("age", 0, 7001)
                .is(0, "age", 2, 7009).state("age", 2, 7010).state("age", 0, 199099).nought("age", 0, 200000);
        new Edge("29 age: STATE on DAY 0", Make.on(0, Make.FULL)).is(0, "age", 0, 0).state("age", 0, 1);
        new Edge("29 age: NOUGHT ahead of STATE", Make.on(0, Make.FULL)).nought("age", 2, 4050).nought("age", 0, 100)
                .state("age", 2, 4049);
        new Edge("29 age: BAD ahead of all", Make.on(0, Make.FULL)).bad("age", 5, 4050).bad("age", -1, 0)
                .bad("age", 0, -1).bad("age", 2, LEAST);
        new Edge("29 age: no TOWNS", x -> { }).bad("age", 0, 0);
    }

    private static void ageByDays() {
        new Edge("29 age: by today, the DAY ahead", Make.on(99, "c200000")).is(0, "age", 0, 0);
        new Edge("29 age: by today, the very DAY", Make.on(100, "c200000")).is(1, "age", 0, 0).is(0, "age", 0, 1)
                .is(0, "age", 0, 1000).is(0, "age", 0, 99);
        new Edge("29 age: on the last DAY", Make.on(19999, "c200000")).is(199, "age", 0, 0).is(199, "age", 0, 99)
                .is(0, "age", 0, 199099);
    }

    private static void agePassesOver() {
        // the last day of a long year: years 0, 2, 4 have one, on days 100, 301, 502
        new Edge("29 age: passed over, the DAY ahead", Make.on(300, "l200000")).is(0, "age", 0, 100);
        new Edge("29 age: passed over, the very DAY", Make.on(301, "l200000")).is(1, "age", 0, 100).is(0, "age", 0, 2100);
        new Edge("29 age: passed over, again", Make.on(502, "l200000")).is(2, "age", 0, 100);
        // 4050 .. 4058 are left out, so days 50 .. 58 of the year come again but on 5050 .. 5058
        new Edge("29 age: left out", Make.on(450, "x204509")).is(4, "age", 0, 49).is(3, "age", 0, 50).is(3, "age", 0, 58)
                .is(4, "age", 0, 59).is(3, "age", 0, 60);
        new Edge("29 age: left out, a YEAR later", Make.on(541, "x204509")).is(5, "age", 0, 49).is(4, "age", 0, 50)
                .is(3, "age", 0, 51);
        // by order on the first days of year 4, that of day 0 is passed over
        new Edge("29 age: left out at the beginning of a YEAR", Make.on(400, "x204009")).is(3, "age", 0, 0)
                .is(3, "age", 0, 8).is(4, "age", 0, 9);
    }

    private static void eldest() {
        new Edge("30 eldest: BAD: also a DAY later than today", Make::full).within(0, 0, 700, "eldest", 0);
        new Edge("30 eldest: on DAY 0", Make.on(0, Make.FULL)).tells(0, 0, "eldest", 0).bad("eldest", 1).bad("eldest", -1);
        new Edge("30 eldest: on the last DAY", Make.on(19999, Make.FULL)).tells(0, 0, "eldest", 19999)
                .bad("eldest", 20000).tells(3, 204, "eldest", 0);
        new Edge("30 eldest: NONE: no TOWNS", x -> x.moon(3)).none("eldest", 0);
        new Edge("30 eldest: NONE: an ALMANAC without TOWNS", x -> {
            Make.full(x);
            x.almanac(1);
        }).none("eldest", 0).bad("eldest", 1);
        new Edge("30 eldest: BAD ahead of NONE", x -> { }).bad("eldest", 1).bad("eldest", -1).bad("eldest", MOST);
    }

    private static void eldestIsTheFirst() {
        new Edge("30 eldest: the first of those alike", Make.on(100, "l200000 c200000 x204509 c200000"))
                .tells(1, 1, "eldest", 0).tells(0, 0, "eldest", 1);
        new Edge("30 eldest: the last TOWN", Make.on(98, "c200000 c200000 c200000 c200000 m200000"))
                .tells(4, 1, "eldest", 0).tells(0, 0, "eldest", 1);
        new Edge("30 eldest: one TOWN", Make.on(98, "m200000")).tells(0, 1, "eldest", 0);
    }
}
