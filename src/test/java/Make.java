/** Makes objects for tests. */
final class Make {
    /** The kinds in their order but for the doubled one; those that cut do so on 450, 550. */
    static final String FIVE = "c200000 l400000 x204509 o405507 m299995";

    /** The towns of full(): a plain one, an ordered one, a cut one, a moon, a doubled one. */
    static final String FULL = "c200000 o405507 x204509 m299995 d301203";

    private Make() {
    }

    static void write(LostDays x, int t, String text) {
        x.text(t, text.length());
        for (int i = 0; i < text.length(); i++) {
            if (text.charAt(i) != ' ') {
                x.put(t, i, text.charAt(i));
            }
        }
    }

    static LostDays towns(String text) {
        LostDays x = new LostDays();
        towns(x, text);
        return x;
    }

    static void towns(LostDays x, String text) {
        write(x, 0, text);
        x.almanac(0);
    }

    /** Towns by a text, and today. */
    static java.util.function.Consumer<LostDays> on(int day, String text) {
        return x -> {
            towns(x, text);
            walk(x, day);
        };
    }

    /** Today becomes a day, by as many steps as go() needs. */
    static void walk(LostDays x, int day) {
        x.back(x.count(1));
        for (int gone = 0; gone < day; ) {
            gone = x.go(Math.min(9999, day - gone));
        }
    }

    /**
     * Something of everything. Today is 700; rows: 0 full (1000 .. 1039), 1 empty, 2 contracts, 3 letters, 4 missing,
     * 5 of five; texts: 0 the almanac, 1 empty, 2 with a fault, 3 missing; almanacs are kept in 0 and 2; something
     * was told by asked() (77), upper() (3), lower() (5), and each finding was answered.
     */
    static void full(LostDays x) {
        towns(x, FULL);
        x.text(1, 0);
        write(x, 2, "c2");
        x.dates(0, 100, 139, 0);
        x.row(1, 0);
        fill(x, 2, 0, 3000, 5, 2, 3060, 1);
        fill(x, 3, 449, 4049, 450, 4059);
        fill(x, 5, 7, -7, 77, 1, 2);
        x.go(10);
        x.keep(0);
        x.go(290);
        x.order(2, 460);
        x.gap(1, 6);
        x.leap(1, 5);
        x.keep(2);
        x.on(0);
        x.go(690);
        findEach(x);
        x.rent(0, 6, 0, 10);
        x.at(5, 2);
    }

    private static void findEach(LostDays x) {
        x.at(4, 0);
        x.at(1, 0);
        x.at(1, 0);
        x.mark(0, 1);
        x.day(2, 4050);
        x.mean(1);
        x.row(0, -1);
        x.row(0, -1);
        x.row(0, -1);
        x.at(1, 0);
    }

    static LostDays full() {
        LostDays x = new LostDays();
        full(x);
        return x;
    }

    static void fill(LostDays x, int r, int... places) {
        x.row(r, places.length);
        for (int i = 0; i < places.length; i++) {
            x.lay(r, i, places[i]);
        }
    }

    /** Place i of a row, or a number that no test lays, if there is none. */
    static int place(LostDays x, int r, int i) {
        return x.at(r, i) == 1 ? x.asked() : -987654321;
    }

    /** That a row has just these places. */
    static void dueRow(LostDays x, String what, int r, int... places) {
        for (int i = 0; i < places.length; i++) {
            Check.due(what + ", place " + i, place(x, r, i), places[i]);
        }
        Check.due(what + " has no more", x.at(r, places.length), LostDays.FINDING);
        Check.due(what + " has no more, finding()", x.finding(), 2);
    }
}
