/** Boundary cases of promises 8 to 16, sentence by sentence: texts, the almanac's language, what towns tell. */
public final class AlmanacEdgeTest {
    private static final int LEAST = Edge.LEAST, MOST = Edge.MOST;
    private static final String LETTERS = "clxmod";

    public static void main(String[] args) {
        text();
        textIsThereWithBlanks();
        put();
        putIsCutToAByte();
        fault();
        faultOfLetters();
        faultOfFigures();
        faultWithinItems();
        faultOfSixth();
        blanks();
        almanac();
        almanacAnew();
        town();
        markNumbers();
        markKinds();
        markLeaped();
        markCut();
        markMoon();
        markOrdered();
        markDoubled();
        order();
        gap();
        leap();
        Check.end();
    }

    private static void text() {
        new Edge("8 text: TEXTS 0 .. 3", Make::full).within(0, 0, 3, "text", 0, 7);
        new Edge("8 text: BAD: also n above 60", Make::full).is(60, "text", 3, 60).is(60, "text", 0, 60)
                .bad("text", 3, 61).bad("text", 0, 61).bad("text", 2, MOST);
        new Edge("8 text: SIZE: below 0", Make::full).is(0, "text", 3, 0).is(0, "text", 0, 0)
                .size("text", 3, -1).size("text", 0, -1).size("text", 2, LEAST);
        new Edge("8 text: BAD ahead of SIZE", Make::full).bad("text", 4, -1).bad("text", -1, -1).bad("text", 4, 61);
    }

    private static void textIsThereWithBlanks() {
        LostDays x = Make.full();
        x.text(0, 60);
        for (int i = 0; i < 60; i++) {
            Check.due("8 text: blank " + i, x.put(0, i, 64 + i), 1032);
        }
        Check.finds(x, Edge.BEYOND, "8 text: no more than 60", () -> x.put(0, 60, 32));
        x.text(0, 60);
        for (int i = 0; i < 60; i++) {
            Check.due("8 text: blank " + i + " anew", x.put(0, i, 32), 1032);
        }
        x.text(0, 0);
        Check.finds(x, Edge.BEYOND, "8 text: none of none", () -> x.put(0, 0, 32));
        Check.due("8 text: an empty TEXT is there", x.count(5), 3);
        x.text(3, 1);
        Check.due("8 text: all four are there", x.count(5), 4);
        Check.due("8 text: another one is as it was", x.put(2, 0, 32), 1000 + 'c');
    }

    private static void put() {
        new Edge("9 put: TEXTS 0 .. 3", Make::full).within(0, 0, 3, "put", 0, 0, 65);
        new Edge("9 put: BEYOND", Make::full).is(1000 + 'c', "put", 0, 0, 65).is(1000 + '3', "put", 0, 38, 65)
                .beyond("put", 0, -1, 65).beyond("put", 0, 39, 65).beyond("put", 0, LEAST, 65).beyond("put", 0, MOST, 65)
                .is(1000 + '2', "put", 2, 1, 65).beyond("put", 2, 2, 65);
        new Edge("9 put: BEYOND, a full TEXT", x -> x.text(0, 60)).is(1032, "put", 0, 59, 65).beyond("put", 0, 60, 65);
        new Edge("9 put: BEYOND, an empty TEXT", Make::full).beyond("put", 1, 0, 65).beyond("put", 1, -1, 65);
        new Edge("9 put: NOTHING, ahead of BEYOND", Make::full).nothing("put", 3, 0, 65).nothing("put", 3, -1, 65)
                .nothing("put", 3, 60, 65);
        new Edge("9 put: BAD ahead of all", Make::full).bad("put", 4, 60, 65).bad("put", -1, -1, 65);
    }

    private static void putIsCutToAByte() {
        int[][] pairs = {{0, 0}, {127, 127}, {128, -128}, {255, -1}, {256, 0}, {383, 127}, {384, -128}, {-1, -1},
            {-128, -128}, {-129, 127}, {-256, 0}, {LEAST, 0}, {MOST, -1}};
        for (int[] pair : pairs) {
            LostDays x = Make.full();
            long before = x.digest();
            int was = x.put(0, 5, pair[0]);
            Check.due("9 put: " + pair[0] + " comes to a place", x.put(0, 5, was - 1000), 1000 + pair[1]);
            Check.due("9 put: and no other place", x.digest(), before);
        }
    }

    private static void fault() {
        new Edge("10 fault: TEXTS 0 .. 3", Make::full).within(0, 0, 3, "fault", 0);
        new Edge("10 fault: NONE: there is none", Make::full).none("fault", 0).is(2, "fault", 2);
        new Edge("10 fault: NONE, an empty TEXT", Make::full).none("fault", 1);
        new Edge("10 fault: NOTHING", Make::full).nothing("fault", 3);
    }

    private static void dueFault(String text, int want) {
        Edge e = new Edge("10 fault of '" + text + "'", x -> {
            Make.full(x);
            Make.write(x, 1, text);
        });
        if (want == LostDays.NONE) {
            e.none("fault", 1);
        } else {
            e.is(want, "fault", 1).state("almanac", 1);
        }
    }

    /** Every sign that can be put, as the first one, and as the first one of a second item. */
    private static void faultOfLetters() {
        for (int sign = 0; sign < 256; sign++) {
            boolean goesOn = sign == 32 || LETTERS.indexOf(sign) >= 0;
            dueFaultAt(0, "?200000", sign, goesOn);
            dueFaultAt(7, "c200000?200000", sign, goesOn);
        }
        dueFault("C200000", 0);
        dueFault("2", 0);
    }

    /** Every sign at each figure's place: LEAP 2 .. 9, others 0 .. 9. */
    private static void faultOfFigures() {
        for (int sign = 0; sign < 256; sign++) {
            dueFaultAt(1, "c200000", sign, sign >= '2' && sign <= '9');
            for (int place = 2; place <= 6; place++) {
                dueFaultAt(place, "c200000", sign, sign >= '0' && sign <= '9');
            }
        }
    }

    /** Whether a text may go on at a place with a sign; what is behind that place is not looked at. */
    private static void dueFaultAt(int place, String text, int sign, boolean goesOn) {
        LostDays x = new LostDays();
        Make.write(x, 1, text);
        x.put(1, place, sign);
        int fault = x.fault(1);
        String what = "10 fault: sign " + sign + " at " + place + " of '" + text + "'";
        if (goesOn) {
            Check.that(what + " fits, but fault is " + fault, fault == LostDays.NONE || fault > place);
        } else {
            Check.due(what, fault, place);
        }
    }

    private static void faultWithinItems() {
        String item = "d912349";
        for (int n = 1; n <= 6; n++) {
            dueFault(item.substring(0, n), n);
            dueFault(" " + item.substring(0, n), n + 1);
            dueFault(item + item.substring(0, n), n + 7);
            dueFault(" ".repeat(60 - n) + item.substring(0, n), 60);
            // none within items: a blank is the fault, not the end
            dueFault(item.substring(0, n) + " " + item.substring(n), n);
            dueFault(item.substring(0, n) + " ", n);
        }
        dueFault(item, LostDays.NONE);
        dueFault(" ".repeat(53) + item, LostDays.NONE);
        dueFault(item + "0", 7);
        // the first place of several
        dueFault("c1x", 1);
        dueFault("c2000 0 q", 5);
    }

    private static void faultOfSixth() {
        String five = "c200000l300001x499999m500005o600009";
        dueFault(five.substring(0, 28), LostDays.NONE);
        dueFault(five, LostDays.NONE);
        dueFault(five + " ".repeat(25), LostDays.NONE);
        dueFault(five + "d799999", 35);
        dueFault(five + "d", 35);
        dueFault(five + "   d799999", 38);
        dueFault(five + "?", 35);
        dueFault(five + "7", 35);
        dueFault(five + " ".repeat(24) + "c", 59);
    }

    private static void blanks() {
        for (String text : new String[] {"c200000l300001", " c200000l300001", "c200000 l300001", "c200000l300001 ",
            "   c200000    l300001     ", " ".repeat(23) + "c200000" + " ".repeat(23) + "l300001"}) {
            LostDays x = new LostDays();
            Make.write(x, 0, text);
            Check.due("11 almanac by '" + text + "'", x.almanac(0), 2);
            Check.tells(x, "11 almanac by '" + text + "', KIND of 1", x.town(1, 0), 1, 1);
            Check.tells(x, "11 almanac by '" + text + "', GAP of 1", x.town(1, 3), 1, 1);
        }
        for (int n : new int[] {0, 1, 59, 60}) {
            LostDays x = Make.full();
            x.text(3, n);
            Check.due("11 almanac by " + n + " blanks", x.almanac(3), 0);
            Check.due("11 almanac by " + n + " blanks: TOWNS", x.count(0), 0);
        }
        // other signs that look blank are none
        for (int sign : new int[] {0, 9, 10, 13, 31, 33, 32 + 128}) {
            LostDays x = new LostDays();
            x.text(0, 1);
            x.put(0, 0, sign);
            Check.due("10 fault of the sign " + sign, x.fault(0), 0);
        }
    }

    private static void almanac() {
        new Edge("11 almanac: TEXTS 0 .. 3", Make::full).within(0, 0, 3, "almanac", 0);
        new Edge("11 almanac: NOTHING", Make::full).nothing("almanac", 3);
        new Edge("11 almanac: STATE: a FAULT", Make::full).state("almanac", 2);
        new Edge("11 almanac: how many TOWNS", Make::full).is(5, "almanac", 0).is(0, "almanac", 1);
        for (int n = 0; n <= 5; n++) {
            int towns = n;
            new Edge("11 almanac: " + n + " TOWNS", x -> Make.write(x, 1, "m200000 ".repeat(towns))).is(n, "almanac", 1);
        }
        new Edge("11 almanac: six are a FAULT", x -> Make.write(x, 1, "m200000 ".repeat(6))).state("almanac", 1);
    }

    private static void almanacAnew() {
        LostDays x = Make.full();
        x.order(2, 451);
        x.gap(2, 8);
        x.leap(2, 9);
        Check.due("11 almanac: anew", x.almanac(0), 5);
        Check.due("11 almanac: today is DAY 0", x.count(1), 0);
        Check.due("11 almanac: kept ALMANACS go", x.count(6), 0);
        for (int k = 0; k <= 2; k++) {
            int place = k;
            Check.finds(x, Edge.NOTHING, "11 almanac: that kept in " + k, () -> x.on(place));
        }
        int[][] want = {{0, 2, 0, 0, 0}, {4, 4, 550, 7, 0}, {2, 2, 450, 9, 0}, {3, 2, 9999, 5, 0}, {5, 3, 120, 3, 0}};
        for (int c = 0; c < 5; c++) {
            for (int what = 0; what <= 4; what++) {
                Check.tells(x, "11 almanac: town(" + c + ", " + what + ")", x.town(c, what), 1, want[c][what]);
            }
        }
        Check.due("11 almanac: ROWS stay", x.count(4), 5);
        Check.due("11 almanac: TEXTS stay", x.count(5), 3);
        LostDays y = Make.full();
        y.almanac(1);
        Check.due("11 almanac: without TOWNS", y.count(0), 0);
        Check.due("11 almanac: without TOWNS, today", y.count(1), 0);
        Check.due("11 almanac: without TOWNS, town(0, 0)", y.town(0, 0), LostDays.BAD);
    }

    private static void town() {
        new Edge("12 town: BAD: TOWNS", Make::full).within(0, 0, 4, "town", 0, 0);
        new Edge("12 town: BAD: 0 .. 4", Make::full).within(1, 0, 4, "town", 1, 0);
        new Edge("12 town: BAD: one TOWN", Make.on(0, "c200000")).within(0, 0, 0, "town", 0, 2);
        new Edge("12 town: BAD: no TOWNS", x -> { }).bad("town", 0, 0).bad("town", -1, 0);
        new Edge("12 town: told by asked()", Make::full).tells(1, 4, "town", 1, 0).tells(1, 4, "town", 1, 1)
                .tells(1, 550, "town", 1, 2).tells(1, 7, "town", 1, 3).tells(1, 7005, "town", 1, 4);
        new Edge("12 town: least figures", Make.on(0, "c200000")).tells(1, 2, "town", 0, 1).tells(1, 0, "town", 0, 2)
                .tells(1, 0, "town", 0, 3).tells(1, 0, "town", 0, 4);
        new Edge("12 town: greatest figures", Make.on(19999, "d999999")).tells(1, 9, "town", 0, 1)
                .tells(1, 9999, "town", 0, 2).tells(1, 9, "town", 0, 3).tells(1, 200017, "town", 0, 4);
        for (int kind = 0; kind <= 5; kind++) {
            new Edge("12 town: the KIND", Make.on(0, LETTERS.charAt(kind) + "200000")).tells(1, kind, "town", 0, 0);
        }
    }

    private static void markNumbers() {
        new Edge("13 mark: TOWNS", Make.on(5, "l200000 o300000 l400000")).within(0, 0, 2, "mark", 0, 1);
        for (int kind = 1; kind <= 5; kind++) {
            new Edge("13 mark: BAD: also KIND 0", Make.on(5, LETTERS.charAt(kind) + "200000"))
                    .within(1, 1, 5, "mark", 0, kind).bad("mark", 0, 0);
        }
        new Edge("13 mark: BAD: also KIND 0, of a CALENDAR", Make.on(5, "c200000")).bad("mark", 0, 0);
        new Edge("13 mark: BAD ahead of UNLIKE", Make.on(5, "c200000")).bad("mark", 1, 1).bad("mark", 0, 6);
    }

    private static void markKinds() {
        String[] own = {"", "1", "2", "3", "14", "25"};
        for (int of = 0; of <= 5; of++) {
            Edge e = new Edge("13 mark: UNLIKE", Make.on(0, LETTERS.charAt(of) + "299991"));
            for (int kind = 1; kind <= 5; kind++) {
                if (own[of].indexOf('0' + kind) < 0) {
                    e.unlike("mark", 0, kind);
                } else {
                    e.is(kind == 2 ? 9999 : kind == 3 ? 1 : 0, "mark", 0, kind);
                }
            }
        }
    }

    private static void dueMark(int want, int kind, int day, String text) {
        new Edge("13 mark of '" + text + "' on " + day, Make.on(day, text)).is(want, "mark", 0, kind);
    }

    private static void markLeaped() {
        // by leap 2: year 0 is days 0 .. 100, year 1 101 .. 200, year 2 201 .. 301
        dueMark(0, 1, 0, "l200000");
        dueMark(0, 1, 100, "l200000");
        dueMark(1, 1, 101, "l200000");
        dueMark(1, 1, 200, "l200000");
        dueMark(0, 1, 201, "l200000");
        dueMark(0, 1, 100, "l900000");
        dueMark(8, 1, 101, "l900000");
        dueMark(1, 1, 900, "l900000");
        dueMark(0, 1, 901, "l900000");
        // an ordered one leaves out the end of its long year
        dueMark(0, 1, 94, "o900956");
        dueMark(8, 1, 95, "o900956");
        dueMark(0, 1, 95, "o900955");
    }

    private static void markCut() {
        for (String letter : new String[] {"x", "d"}) {
            dueMark(9999, 2, 0, letter + "299999");
            dueMark(1, 2, 9998, letter + "299999");
            dueMark(0, 2, 9999, letter + "299999");
            dueMark(0, 2, 10000, letter + "299999");
            dueMark(0, 2, 19999, letter + "299999");
            dueMark(0, 2, 0, letter + "200009");
            dueMark(1, 2, 0, letter + "200010");
            dueMark(0, 2, 1, letter + "200010");
        }
        // the first order, not the later one
        dueMark(0, 2, 121, "d201203");
        dueMark(0, 2, 1119, "d201203");
    }

    private static void markMoon() {
        dueMark(1, 3, 0, "m200000");
        dueMark(1, 3, 97, "m200000");
        dueMark(2, 3, 98, "m200000");
        dueMark(204, 3, 19991, "m200000");
        dueMark(205, 3, 19992, "m200000");
        dueMark(205, 3, 19999, "m200000");
        dueMark(1, 3, 97, "m200009");
    }

    private static void markOrdered() {
        dueMark(0, 4, 549, "o405507");
        dueMark(7, 4, 550, "o405507");
        dueMark(7, 4, 551, "o405507");
        dueMark(7, 4, 1550, "o405507");
        dueMark(9, 4, 0, "o200009");
        dueMark(0, 4, 9998, "o299999");
        dueMark(9, 4, 9999, "o299999");
        dueMark(9, 4, 19999, "o299999");
        dueMark(0, 4, 550, "o405500");
    }

    private static void markDoubled() {
        dueMark(0, 5, 119, "d301203");
        dueMark(1, 5, 120, "d301203");
        dueMark(1, 5, 1119, "d301203");
        dueMark(2, 5, 1120, "d301203");
        dueMark(2, 5, 2120, "d301203");
        dueMark(1, 5, 0, "d300001");
        dueMark(1, 5, 999, "d300001");
        dueMark(2, 5, 1000, "d300001");
        dueMark(0, 5, 9998, "d399991");
        dueMark(1, 5, 10998, "d399991");
        dueMark(2, 5, 10999, "d399991");
        dueMark(2, 5, 19999, "d399991");
        // a GAP of 0 never left some out
        dueMark(0, 5, 120, "d301200");
        dueMark(0, 5, 1120, "d301200");
    }

    private static void order() {
        new Edge("14 order: TOWNS", Make::full).within(0, 0, 4, "order", 0, 5);
        new Edge("14 order: a DAY 0 .. 9999", Make::full).within(1, 0, 9999, "order", 2, 5);
        new Edge("14 order: what it was", Make::full).is(450, "order", 2, 9999).is(0, "order", 0, 9999)
                .is(9999, "order", 3, 0);
        dueAfter("x204509", "order", 0, 0, 9, 91, 1000);
        dueAfter("x204509", "order", 9999, 0, 0, 9998, 99098, 9999, 100008);
        new Edge("14 order: no TOWNS", x -> { }).bad("order", 0, 0);
    }

    private static void gap() {
        new Edge("15 gap: TOWNS", Make::full).within(0, 0, 4, "gap", 0, 5);
        new Edge("15 gap: 0 .. 9", Make::full).within(1, 0, 9, "gap", 2, 5);
        new Edge("15 gap: what it was", Make::full).is(9, "gap", 2, 0).is(0, "gap", 0, 9).is(5, "gap", 3, 5);
        dueAfter("x200005", "gap", 0, 0, 0, 9999, 99099);
        dueAfter("x200005", "gap", 9, 0, 9, 9999, 100008);
        new Edge("15 gap: no TOWNS", x -> { }).bad("gap", 0, 0);
    }

    private static void leap() {
        new Edge("16 leap: TOWNS", Make::full).within(0, 0, 4, "leap", 0, 5);
        new Edge("16 leap: 2 .. 9", Make::full).within(1, 2, 9, "leap", 2, 5);
        new Edge("16 leap: what it was", Make::full).is(4, "leap", 1, 9).is(2, "leap", 0, 2).is(3, "leap", 4, 3);
        // by leap 2 year 99 begins on day 9950, by leap 9 on day 9911
        dueAfter("l500000", "leap", 2, 0, 0, 9999, 99049);
        dueAfter("l500000", "leap", 9, 0, 0, 9999, 99088);
        new Edge("16 leap: no TOWNS", x -> { }).bad("leap", 0, 2);
    }

    /** After a change of a town: its dates of days, in pairs, and that another town like it is as it was. */
    private static void dueAfter(String town, String name, int v, int... datesOfDays) {
        LostDays x = Make.towns(town + town);
        LostDays unchanged = Make.towns(town);
        Call.answer(x, name, 0, v);
        String what = name + "(0, " + v + ")";
        for (int i = 0; i < datesOfDays.length; i += 2) {
            int day = datesOfDays[i];
            Check.due(what + ", date(0, " + day + ")", x.date(0, day), datesOfDays[i + 1]);
            Check.due(what + ", date(1, " + day + ")", x.date(1, day), unchanged.date(0, day));
        }
        int asked = name.equals("leap") ? 1 : name.equals("order") ? 2 : 3;
        Check.tells(x, what + ", town(0, " + asked + ")", x.town(0, asked), 1, v);
    }
}
