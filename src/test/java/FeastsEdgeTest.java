/** Boundary cases of promises 41 to 46, sentence by sentence: moons, feasts, leaps, lots. */
public final class FeastsEdgeTest {
    private static final int LEAST = Edge.LEAST, MOST = Edge.MOST;

    public static void main(String[] args) {
        moon();
        feastNumbers();
        feastFromDay20();
        feastIfThatIsNoDate();
        together();
        keepsNumbers();
        keepsMoreThan();
        fails();
        lotsNumbers();
        lots();
        Check.end();
    }

    private static void moon() {
        Edge e = new Edge("41 moon: DAYS 0 .. 19999", x -> { }).within(0, 0, 19999, "moon", 0);
        e.tells(1, 0, "moon", 0).tells(0, 28, "moon", 1).tells(0, 1, "moon", 28).tells(1, 0, "moon", 29)
                .tells(0, 29, "moon", 30).tells(0, 1, "moon", 58).tells(1, 0, "moon", 59).tells(0, 28, "moon", 60)
                .tells(0, 1, "moon", 87).tells(1, 0, "moon", 88).tells(0, 29, "moon", 89).tells(1, 0, "moon", 118);
        // 338 times 59 and 29 is 19971, the next one is 20001
        new Edge("41 moon: the next one above 19999", x -> { }).tells(0, 1, "moon", 19970).tells(1, 0, "moon", 19971)
                .tells(0, 29, "moon", 19972).tells(0, 2, "moon", 19999);
    }

    private static void feastNumbers() {
        new Edge("42 feast: TOWNS", Make::full).within(0, 0, 4, "feast", 0, 5);
        new Edge("42 feast: a YEAR 0 .. 150", Make::full).within(1, 0, 150, "feast", 2, 5);
        new Edge("42 feast: no TOWNS", x -> { }).bad("feast", 0, 0);
        new Edge("42 feast: the first and the last YEAR", Make::full).is(29, "feast", 0, 0).is(15045, "feast", 0, 150)
                .is(29, "feast", 3, 0).is(14720, "feast", 3, 150);
    }

    private static void dueFeast(int want, String town, int y) {
        new Edge("42 feast by '" + town + "'", Make.on(0, town)).is(want, "feast", 0, y);
    }

    private static void feastFromDay20() {
        // day 20 of year 9 is 920, of year 22 2220, of year 24 2420; full on 914, 944; 2213, 2242; 2419, 2448
        dueFeast(944, "c200000", 9);
        dueFeast(2242, "c200000", 22);
        dueFeast(2448, "c200000", 24);
        // a moon's: day 20 of year 1 is 118, on which it is full; of year 7 706, full on 708
        dueFeast(118, "m200000", 1);
        dueFeast(708, "m200000", 7);
        // a gap moves day 20 of year 1 ahead by so much: on 119 it is late, on 118 just in time
        dueFeast(147, "x200001", 1);
        dueFeast(118, "x200002", 1);
        dueFeast(118, "x200009", 1);
        // of year 0 by ORDER 0: days 20 - gap
        dueFeast(29, "x200009", 0);
        dueFeast(29, "d200009", 0);
        dueFeast(118, "d200009", 1);
    }

    private static void feastIfThatIsNoDate() {
        // day 20 of year 1 is count 120; left out from it on: the next DATE is on the ORDER's day, 120
        dueFeast(147, "x201209", 1);
        // left out to it: counts 112 .. 120 by ORDER 112, so day 21 of the year is on 112
        dueFeast(118, "x201129", 1);
        // counts 118 .. 120 by ORDER 118: on the very day; 119, 120 by ORDER 119: a day late
        dueFeast(118, "x201183", 1);
        dueFeast(147, "x201192", 1);
        // counts up to 119 only: day 20 itself is there, on 118 and 119
        dueFeast(118, "x201182", 1);
        dueFeast(147, "x201191", 1);
        // the second time of a doubled one: day 20 of year 11 is count 1120; by ORDER 100, GAP 9 it is day 1111
        dueFeast(1121, "d201009", 11);
        dueFeast(1121, "d201209", 11);
    }

    private static void together() {
        new Edge("43 together: TOWNS", Make::full).within(0, 0, 4, "together", 0, 1, 5, 9)
                .within(1, 0, 4, "together", 0, 1, 5, 9);
        new Edge("43 together: YEARS from 0", Make::full).within(2, 0, 9, "together", 0, 1, 5, 9);
        new Edge("43 together: YEARS to 150", Make::full).within(3, 5, 150, "together", 0, 1, 5, 9);
        new Edge("43 together: BAD: the second below the first", Make::full).is(1, "together", 0, 0, 9, 9)
                .bad("together", 0, 0, 9, 8).bad("together", 0, 0, MOST, LEAST).bad("together", 0, 0, LEAST, MOST)
                .bad("together", 0, 0, 151, 151).bad("together", 0, 0, -1, -1);
        new Edge("43 together: all YEARS", Make::full).is(151, "together", 0, 0, 0, 150).is(1, "together", 3, 3, 150, 150)
                .is(1, "together", 0, 3, 0, 0);
        // of a cut one's from 450 on the feasts of years are up to 9 days ahead: of year 9 on 914, not 944
        new Edge("43 together: not in all", Make::full).is(1, "together", 0, 2, 8, 8).is(0, "together", 0, 2, 9, 9)
                .is(1, "together", 0, 2, 8, 9).is(1, "together", 0, 2, 9, 10);
        new Edge("43 together: no TOWNS", x -> { }).bad("together", 0, 0, 0, 0);
    }

    private static void keepsNumbers() {
        new Edge("44 keeps: v 0 .. 99", x -> { }).within(0, 0, 99, "keeps", 5, 4, 10);
        new Edge("44 keeps: k 2 .. 9", x -> { }).within(1, 2, 9, "keeps", 5, 4, 10);
        new Edge("44 keeps: n 1 .. 150", x -> { }).within(2, 1, 150, "keeps", 5, 4, 10);
        new Edge("44 keeps: the least LEAP", x -> { }).is(2, "keeps", 99, 9, 150).is(2, "keeps", 1, 2, 150);
        // k 9: by LEAP 8 it is OFF by just one in year 9, by 10/9 in year 17
        new Edge("44 keeps: the greatest LEAP", x -> { }).is(9, "keeps", 1, 9, 150).is(9, "keeps", 1, 9, 17)
                .is(8, "keeps", 1, 9, 16).is(8, "keeps", 1, 9, 9);
        new Edge("44 keeps: NONE: none", x -> { }).none("keeps", 0, 2, 1).none("keeps", 0, 9, 150);
    }

    private static void keepsMoreThan() {
        // k 4: by LEAP 2 it is OFF by 1/2 in year 2, 5/4 in year 3; by LEAP 3 by 1/2 in year 2, 1 in year 4, 3/4 in 5
        new Edge("44 keeps: 0 .. n", x -> { }).is(2, "keeps", 1, 4, 2).is(3, "keeps", 1, 4, 3).is(3, "keeps", 1, 4, 6);
        // by LEAP 3 in year 4 it is OFF by just one, in year 7 by 5/4: that is more
        new Edge("44 keeps: never by more than v", x -> { }).is(3, "keeps", 1, 4, 4).is(4, "keeps", 1, 4, 7);
    }

    private static void fails() {
        new Edge("45 fails: LEAP 2 .. 9", x -> { }).within(0, 2, 9, "fails", 5, 5, 4);
        new Edge("45 fails: v 0 .. 99", x -> { }).within(1, 0, 99, "fails", 5, 5, 4);
        new Edge("45 fails: k 2 .. 9", x -> { }).within(2, 2, 9, "fails", 5, 5, 4);
        // ahead: ceil(y/2) less y/4: 5/4 in year 3; behind: 1 less y/2 by LEAP 9: 2 in year 6, 5/2 in year 7
        new Edge("45 fails: by more than v, either way", x -> { }).is(3, "fails", 2, 1, 4).is(7, "fails", 9, 2, 2)
                .is(5, "fails", 9, 1, 2).is(1, "fails", 9, 0, 2).is(1, "fails", 2, 0, 9);
        // these would be OFF by more first in year 149, 151
        new Edge("45 fails: NONE: to YEAR 150", x -> { }).is(149, "fails", 2, 58, 9).none("fails", 2, 59, 9)
                .none("fails", 9, 58, 2).none("fails", 4, 37, 2).none("fails", 2, 99, 9).none("fails", 2, 1, 2);
    }

    private static void lotsNumbers() {
        new Edge("46 lots: TOWNS", Make::full).within(0, 0, 4, "lots", 0, 1, 5, 9).within(1, 0, 4, "lots", 0, 1, 5, 9);
        new Edge("46 lots: n 1 .. 40", Make::full).within(2, 1, 40, "lots", 0, 1, 5, 9);
        new Edge("46 lots: a seed 1 .. 2147483646", Make::full).within(3, 1, 2147483646, "lots", 0, 1, 5, 9)
                .bad("lots", 0, 1, 5, 0).bad("lots", 0, 1, 5, 2147483647);
        new Edge("46 lots: no TOWNS", x -> { }).bad("lots", 0, 0, 1, 1);
    }

    private static void lots() {
        new Edge("46 lots: on all", Make::full).is(40, "lots", 2, 2, 40, 1).is(1, "lots", 2, 2, 1, 2147483646);
        // seed 1: days 8271, 5794, 14886, 637; a cut one agrees but ahead of its ORDER
        new Edge("46 lots: seed 1", Make.on(0, "c200000 x282719")).is(0, "lots", 0, 1, 1, 1).is(1, "lots", 0, 1, 2, 1)
                .is(1, "lots", 0, 1, 3, 1).is(2, "lots", 0, 1, 4, 1);
        new Edge("46 lots: seed 1", Make.on(0, "c200000 x282729")).is(1, "lots", 0, 1, 1, 1).is(2, "lots", 0, 1, 2, 1);
        // seed 2147483646 stands for -1, so its first number is 2147483647 - 48271 = 2147435376: day 15376
        new Edge("46 lots: the greatest seed", Make.on(0, "c200000 x299991")).is(0, "lots", 0, 1, 1, 2147483646);
        // its second one is 2147483647 - 182605794 = 1964877853: day 17853; its third 856088761: day 8761
        new Edge("46 lots: the greatest seed", Make.on(0, "c200000 x287621")).is(0, "lots", 0, 1, 2, 2147483646)
                .is(1, "lots", 0, 1, 3, 2147483646);
        new Edge("46 lots: the greatest seed", Make.on(0, "c200000 x287611")).is(0, "lots", 0, 1, 3, 2147483646);
    }
}
