/** Boundary cases of promises 1 to 7, sentence by sentence: a new object, rows. */
public final class RowsEdgeTest {
    private static final int LEAST = Edge.LEAST, MOST = Edge.MOST;

    public static void main(String[] args) {
        newObject();
        row();
        rowIsThereWithNoughts();
        lay();
        layTellsWhatItWas();
        at();
        tear();
        tearTakesOne();
        copySizes();
        copyPlaces();
        copyAsIfTakenAhead();
        mean();
        meanIsCut();
        Check.end();
    }

    private static void newObject() {
        Edge e = new Edge("1 no ROWS, TEXTS, TOWNS; today is DAY 0", x -> { });
        for (int r = 0; r <= 5; r++) {
            e.nothing("at", r, 0).nothing("tear", r).nothing("mean", r);
        }
        for (int t = 0; t <= 3; t++) {
            e.nothing("put", t, 0, 32).nothing("fault", t).nothing("almanac", t);
        }
        for (int k = 0; k <= 2; k++) {
            e.nothing("on", k).state("keep", k);
        }
        for (int what = 0; what <= 6; what++) {
            e.is(0, "count", what);
        }
        e.bad("town", 0, 4).bad("date", 0, 0).state("go", 0).is(0, "back", 0).bad("back", 1);
        e.none("eldest", 0).bad("eldest", 1).tells(0, 0, "where", 0, 0).is(0, "dated", 0, 0, 19999);
    }

    private static void row() {
        new Edge("2 row: ROWS 0 .. 5", Make::full).within(0, 0, 5, "row", 0, 7);
        new Edge("2 row: BAD: also n above 40", Make::full).is(40, "row", 4, 40).is(40, "row", 0, 40)
                .bad("row", 4, 41).bad("row", 0, 41).bad("row", 5, MOST);
        new Edge("2 row: SIZE: below 0", Make::full).is(0, "row", 4, 0).is(0, "row", 0, 0)
                .size("row", 4, -1).size("row", 0, -1).size("row", 5, LEAST);
        new Edge("2 row: BAD ahead of SIZE", Make::full).bad("row", 6, -1).bad("row", -1, -1).bad("row", 6, 41);
    }

    private static void rowIsThereWithNoughts() {
        LostDays x = Make.full();
        x.row(0, 40);
        Make.dueRow(x, "2 row: a full ROW anew", 0, new int[40]);
        x.row(0, 1);
        Make.dueRow(x, "2 row: a ROW of one", 0, 0);
        x.lay(0, 0, 9);
        x.row(0, 0);
        Make.dueRow(x, "2 row: a ROW of none", 0);
        Check.due("2 row: an empty ROW is there", x.count(4), 5);
        x.row(4, 2);
        Make.dueRow(x, "2 row: a ROW that was missing", 4, 0, 0);
        Check.due("2 row: all six are there", x.count(4), 6);
        Make.dueRow(x, "2 row: another ROW is as it was", 5, 7, -7, 77, 1, 2);
    }

    private static void lay() {
        new Edge("3 lay: ROWS 0 .. 5", Make::full).within(0, 0, 5, "lay", 0, 0, 8);
        new Edge("3 lay: BEYOND", Make::full).tells(1, 1000, "lay", 0, 0, 8).tells(1, 1039, "lay", 0, 39, 8)
                .beyond("lay", 0, -1, 8).beyond("lay", 0, 40, 8).beyond("lay", 0, LEAST, 8).beyond("lay", 0, MOST, 8)
                .tells(1, 2, "lay", 5, 4, 8).beyond("lay", 5, 5, 8).beyond("lay", 5, 39, 8);
        new Edge("3 lay: BEYOND, an empty ROW", Make::full).beyond("lay", 1, 0, 8).beyond("lay", 1, -1, 8);
        new Edge("3 lay: NOTHING, ahead of BEYOND", Make::full).nothing("lay", 4, 0, 8).nothing("lay", 4, -1, 8)
                .nothing("lay", 4, 40, 8);
        new Edge("3 lay: BAD ahead of all", Make::full).bad("lay", 6, 40, 8).bad("lay", -1, -1, 8);
        new Edge("3 lay: a ROW that was torn is missing", x -> x.tear(torn(x))).nothing("lay", 5, 0, 8);
    }

    private static int torn(LostDays x) {
        Make.full(x);
        return 5;
    }

    private static void layTellsWhatItWas() {
        LostDays x = Make.full();
        for (int v : new int[] {LEAST, MOST, -1, 0, 5}) {
            x.lay(0, 39, v);
            Check.tells(x, "3 lay: " + v + " is at its place", x.at(0, 39), 1, v);
            Check.tells(x, "3 lay: " + v + " is what it was", x.lay(0, 39, 3), 1, v);
        }
        x.lay(5, 0, 11);
        x.lay(5, 4, 12);
        Make.dueRow(x, "3 lay: no other place", 5, 11, -7, 77, 1, 12);
    }

    private static void at() {
        new Edge("4 at: ROWS 0 .. 5", Make::full).within(0, 0, 5, "at", 0, 0);
        new Edge("4 at: BEYOND", Make::full).tells(1, 1000, "at", 0, 0).tells(1, 1039, "at", 0, 39)
                .beyond("at", 0, -1).beyond("at", 0, 40).beyond("at", 0, LEAST).beyond("at", 0, MOST)
                .tells(1, 7, "at", 5, 0).tells(1, 2, "at", 5, 4).beyond("at", 5, 5).beyond("at", 5, 39);
        new Edge("4 at: BEYOND, an empty ROW", Make::full).beyond("at", 1, 0).beyond("at", 1, -1);
        new Edge("4 at: NOTHING, ahead of BEYOND", Make::full).nothing("at", 4, 0).nothing("at", 4, -1).nothing("at", 4, 40);
        new Edge("4 at: BAD ahead of all", Make::full).bad("at", 6, 40).bad("at", -1, -1);
    }

    private static void tear() {
        new Edge("5 tear: ROWS 0 .. 5", Make::full).within(0, 0, 5, "tear", 0);
        new Edge("5 tear: NOTHING", Make::full).nothing("tear", 4).is(1, "tear", 0).is(1, "tear", 5);
        new Edge("5 tear: an empty ROW is there", Make::full).is(1, "tear", 1);
        new Edge("5 tear: a torn one is missing", x -> x.tear(torn(x))).nothing("tear", 5);
    }

    private static void tearTakesOne() {
        LostDays x = Make.full();
        x.tear(1);
        Check.due("5 tear: the empty one is gone", x.count(4), 4);
        x.tear(0);
        Check.due("5 tear: the full one is gone", x.count(4), 3);
        Check.finds(x, Edge.NOTHING, "5 tear: its places, too", () -> x.at(0, 0));
        Make.dueRow(x, "5 tear: no other one", 5, 7, -7, 77, 1, 2);
    }

    private static void copySizes() {
        new Edge("6 copy: ROWS 0 .. 5", Make::full).within(0, 0, 5, "copy", 0, 0, 5, 0, 1)
                .within(2, 0, 5, "copy", 5, 0, 0, 0, 1);
        new Edge("6 copy: SIZE: n below 0", Make::full).is(1, "copy", 0, 0, 5, 0, 0).size("copy", 0, 0, 5, 0, -1)
                .size("copy", 0, 0, 5, 0, LEAST);
        new Edge("6 copy: SIZE ahead of NOTHING, BEYOND", Make::full).size("copy", 4, 0, 5, 0, -1)
                .size("copy", 0, 41, 5, -1, -1);
        new Edge("6 copy: NOTHING: either", Make::full).nothing("copy", 4, 0, 5, 0, 1).nothing("copy", 5, 0, 4, 0, 1)
                .nothing("copy", 4, 0, 4, 0, 1).nothing("copy", 4, 0, 5, 0, 0).nothing("copy", 5, 0, 4, 0, 0);
        new Edge("6 copy: NOTHING ahead of BEYOND", Make::full).nothing("copy", 4, 0, 5, 6, 1)
                .nothing("copy", 5, 6, 4, 0, 1).nothing("copy", 4, -1, 5, 0, 1);
        new Edge("6 copy: BAD ahead of all", Make::full).bad("copy", 6, 0, 4, 0, -1).bad("copy", 4, 0, 6, 0, -1)
                .bad("copy", -1, 0, 0, 99, 1).bad("copy", 0, 99, -1, 0, 1);
    }

    private static void copyPlaces() {
        new Edge("6 copy: BEYOND: not so many there", Make::full)
                .is(1, "copy", 0, 35, 5, 0, 5).beyond("copy", 0, 36, 5, 0, 5)
                .is(1, "copy", 0, 0, 5, 0, 5).beyond("copy", 0, 0, 5, 0, 6)
                .is(1, "copy", 5, 0, 0, 35, 5).beyond("copy", 5, 0, 0, 36, 5)
                .is(1, "copy", 0, 0, 5, 4, 1).beyond("copy", 0, 0, 5, 5, 1)
                .is(1, "copy", 0, 39, 5, 0, 1).beyond("copy", 0, 40, 5, 0, 1)
                .beyond("copy", 0, -1, 5, 0, 1).beyond("copy", 0, 0, 5, -1, 1);
        new Edge("6 copy: BEYOND, numbers that are far", Make::full).beyond("copy", 0, LEAST, 5, 0, 1)
                .beyond("copy", 0, 0, 5, LEAST, 1).beyond("copy", 0, MOST, 5, 0, 1).beyond("copy", 0, 0, 5, MOST, 1)
                .beyond("copy", 0, 0, 5, 0, MOST).beyond("copy", 0, MOST, 5, MOST, MOST)
                .beyond("copy", 0, LEAST, 5, LEAST, MOST);
        new Edge("6 copy: all of a full ROW", Make::full).is(1, "copy", 0, 0, 0, 0, 40).beyond("copy", 0, 0, 0, 0, 41)
                .beyond("copy", 0, 1, 0, 0, 40).beyond("copy", 0, 0, 0, 1, 40);
        new Edge("6 copy: none of an empty ROW", Make::full).is(1, "copy", 1, 0, 1, 0, 0).beyond("copy", 1, 0, 1, 0, 1)
                .beyond("copy", 0, 0, 1, 0, 1).beyond("copy", 1, 0, 0, 0, 1).beyond("copy", 1, 1, 0, 0, 0);
        new Edge("6 copy: none from behind the last place", Make::full).is(1, "copy", 0, 40, 5, 5, 0)
                .beyond("copy", 0, 41, 5, 5, 0).beyond("copy", 0, 40, 5, 6, 0).beyond("copy", 0, -1, 5, 0, 0)
                .beyond("copy", 0, 0, 5, -1, 0);
        LostDays x = Make.full();
        long digest = x.digest();
        x.copy(0, 40, 5, 5, 0);
        x.copy(5, 0, 5, 0, 5);
        Check.due("6 copy: none, and all to itself, change nothing", x.digest(), digest);
    }

    private static void copyAsIfTakenAhead() {
        LostDays x = Make.full();
        x.copy(5, 0, 5, 1, 4);
        Make.dueRow(x, "6 copy: a place on", 5, 7, 7, -7, 77, 1);
        x.copy(5, 1, 5, 0, 4);
        Make.dueRow(x, "6 copy: a place back", 5, 7, -7, 77, 1, 1);
        x.copy(0, 38, 5, 3, 2);
        Make.dueRow(x, "6 copy: the last two to the last two", 5, 7, -7, 77, 1038, 1039);
        Check.tells(x, "6 copy: they stay where they were", x.at(0, 39), 1, 1039);
        Check.due("6 copy: the full one a place on", x.copy(0, 0, 0, 1, 39), 1);
        Check.tells(x, "6 copy: its first", x.at(0, 0), 1, 1000);
        Check.tells(x, "6 copy: its second", x.at(0, 1), 1, 1000);
        Check.tells(x, "6 copy: its last", x.at(0, 39), 1, 1038);
    }

    private static void mean() {
        new Edge("7 mean: ROWS 0 .. 5", Make::full).within(0, 0, 5, "mean", 0);
        new Edge("7 mean: NOUGHT", Make::full).nought("mean", 1).tells(1, 16, "mean", 5);
        new Edge("7 mean: NOTHING", Make::full).nothing("mean", 4);
        new Edge("7 mean: of a full ROW, cut", Make::full).tells(1, 1019, "mean", 0);
        new Edge("7 mean: of one", x -> Make.fill(x, 0, LEAST)).tells(1, LEAST, "mean", 0);
    }

    private static void meanIsCut() {
        dueMean(3, 3, 4);
        dueMean(-3, -3, -4);
        dueMean(0, 0, 1);
        dueMean(0, 0, -1);
        dueMean(0, -1, 1);
        dueMean(0, 1, 1, 0);
        dueMean(0, -1, -1, 0);
        dueMean(1, 1, 1, 1);
        dueMean(-1, -1, -1, -1);
        int[] most = new int[40];
        java.util.Arrays.fill(most, MOST);
        dueMean(MOST, most);
        most[39] = MOST - 1;
        dueMean(MOST - 1, most);
        int[] least = new int[40];
        java.util.Arrays.fill(least, LEAST);
        dueMean(LEAST, least);
        least[0] = LEAST + 1;
        dueMean(LEAST + 1, least);
    }

    private static void dueMean(int want, int... places) {
        LostDays x = new LostDays();
        Make.fill(x, 2, places);
        Check.tells(x, "7 mean: of " + java.util.Arrays.toString(places), x.mean(2), 1, want);
    }
}
