import java.util.function.Consumer;

/** Boundary cases of promises 38 to 40, sentence by sentence: voyages, letters. */
public final class LettersEdgeTest {
    private static final int LEAST = Edge.LEAST, MOST = Edge.MOST;

    public static void main(String[] args) {
        voyageNumbers();
        voyageSpent();
        voyage();
        datedNumbers();
        dated();
        kindsNumbers();
        kindsUnlike();
        kinds();
        kindsWithTheTownsFigures();
        Check.end();
    }

    private static void voyageNumbers() {
        new Edge("38 voyage: TOWNS", Make::full).within(0, 0, 4, "voyage", 0, 1, 5, 9).within(1, 0, 4, "voyage", 0, 1, 5, 9);
        new Edge("38 voyage: DAYS 0 .. 19999", Make::full).within(2, 0, 19999, "voyage", 0, 1, 5, 0);
        new Edge("38 voyage: n 0 .. 999", Make::full).within(3, 0, 999, "voyage", 0, 1, 5, 9);
        new Edge("38 voyage: no TOWNS", x -> { }).bad("voyage", 0, 0, 0, 0);
    }

    private static void voyageSpent() {
        new Edge("38 voyage: SPENT: above 19999", Make::full).tells(1, 0, "voyage", 0, 0, 19999, 0)
                .spent("voyage", 0, 0, 19999, 1).tells(1, 999, "voyage", 0, 0, 19000, 999)
                .spent("voyage", 0, 0, 19001, 999).spent("voyage", 0, 0, 19999, 999);
        new Edge("38 voyage: BAD ahead of SPENT", Make::full).bad("voyage", 5, 0, 19999, 1).bad("voyage", 0, 5, 19999, 1)
                .bad("voyage", 0, 0, 20000, 1).bad("voyage", 0, 0, 19999, 1000).bad("voyage", 0, 0, MOST, 999)
                .bad("voyage", 0, 0, 19999, MOST);
    }

    private static void voyage() {
        new Edge("38 voyage: over the ORDER", Make::full).tells(1, 1, "voyage", 0, 2, 448, 1)
                .tells(1, 10, "voyage", 0, 2, 449, 1).tells(1, 10, "voyage", 2, 2, 449, 1).tells(1, 1, "voyage", 2, 2, 450, 1);
        new Edge("38 voyage: perhaps below 0", Make::full).tells(1, -9, "voyage", 2, 0, 450, 0)
                .tells(1, -1, "voyage", 2, 0, 450, 8).tells(1, 0, "voyage", 2, 0, 450, 9).tells(1, 1, "voyage", 2, 0, 450, 10)
                .tells(1, 0, "voyage", 2, 0, 449, 0);
        new Edge("38 voyage: the farthest", Make.on(0, "c200000 d299999")).tells(1, -18, "voyage", 1, 0, 19999, 0)
                .tells(1, 1017, "voyage", 0, 1, 10000, 999).tells(1, 1007, "voyage", 0, 1, 9999, 998);
    }

    private static void datedNumbers() {
        new Edge("39 dated: DAYS from 0", Make::full).within(1, 0, 9, "dated", 0, 5, 9);
        new Edge("39 dated: DAYS to 19999", Make::full).within(2, 5, 19999, "dated", 0, 5, 9);
        new Edge("39 dated: BAD: the second below the first", Make::full).is(31, "dated", 9, 9, 9).bad("dated", 9, 9, 8)
                .bad("dated", 9, MOST, LEAST).bad("dated", 9, LEAST, MOST);
        new Edge("39 dated: a DATE below 0 is no number of one", Make::full).is(31, "dated", 0, 0, 0)
                .bad("dated", -1, 0, 19999).bad("dated", LEAST, 0, 19999);
        new Edge("39 dated: no TOWNS", x -> { }).is(0, "dated", 0, 0, 19999).bad("dated", 0, 1, 0).bad("dated", 0, 0, 20000);
    }

    private static void dated() {
        new Edge("39 dated: by none", Make::full).is(0, "dated", 999, 0, 19999).is(0, "dated", MOST, 0, 19999)
                .is(0, "dated", 250000, 0, 19999);
        // 4059 is on days 459, 460 (by a long YEAR more), 450, 451, 456
        new Edge("39 dated: from one DAY to another one", Make::full).is(4, "dated", 4059, 450, 450)
                .is(0, "dated", 4059, 0, 449).is(8, "dated", 4059, 451, 451).is(12, "dated", 4059, 450, 451)
                .is(16, "dated", 4059, 456, 456).is(0, "dated", 4059, 457, 458).is(1, "dated", 4059, 459, 459)
                .is(2, "dated", 4059, 460, 460).is(0, "dated", 4059, 461, 19999).is(31, "dated", 4059, 450, 460);
        new Edge("39 dated: left out", Make::full).is(27, "dated", 4050, 0, 19999).is(27, "dated", 4058, 0, 19999)
                .is(31, "dated", 4049, 0, 19999);
        new Edge("39 dated: the last DAY", Make::full).is(1, "dated", 199099, 19999, 19999).is(4 + 8, "dated", 200008, 0, 19999)
                .is(8, "dated", 200009, 0, 19999).is(8, "dated", 204007, 0, 19999).is(0, "dated", 204008, 0, 19999);
    }

    /** full(), and a row of letters (or of what shall be none). */
    private static Consumer<LostDays> row(int... places) {
        return x -> {
            Make.full(x);
            Make.fill(x, 4, places);
        };
    }

    private static void kindsNumbers() {
        new Edge("40 kinds: TOWNS", Make::full).within(0, 0, 4, "kinds", 0, 3);
        new Edge("40 kinds: ROWS 0 .. 5", Make::full).within(1, 0, 5, "kinds", 0, 3);
        new Edge("40 kinds: no TOWNS", x -> x.row(4, 0)).bad("kinds", 0, 4);
        new Edge("40 kinds: NOTHING", Make::full).nothing("kinds", 0, 4);
        for (int n = 0; n <= 40; n++) {
            int size = n;
            Edge e = new Edge("40 kinds: SIZE: not even", x -> {
                Make.full(x);
                x.row(4, size);
            });
            if (n % 2 == 0) {
                e.is(63, "kinds", 0, 4);
            } else {
                e.size("kinds", 0, 4);
            }
        }
        new Edge("40 kinds: SIZE ahead of UNLIKE", row(-1, -1, -1)).size("kinds", 0, 4);
        new Edge("40 kinds: BAD ahead of all", Make::full).bad("kinds", 5, 4).bad("kinds", 5, 5).bad("kinds", -1, 6);
        new Edge("40 kinds: no letters: of all KINDS", Make::full).is(63, "kinds", 2, 1);
    }

    private static void kindsUnlike() {
        for (int day : new int[] {-1, 20000, LEAST, MOST}) {
            new Edge("40 kinds: UNLIKE: no DAY", row(0, 0, day, 0)).unlike("kinds", 0, 4);
            new Edge("40 kinds: UNLIKE: no DAY, the first", row(day, 0, 0, 1)).unlike("kinds", 0, 4);
        }
        for (int date : new int[] {-1, LEAST}) {
            new Edge("40 kinds: UNLIKE: a DATE below 0", row(0, 0, 0, date)).unlike("kinds", 0, 4);
            new Edge("40 kinds: UNLIKE: a DATE below 0, the first", row(0, date, 0, 1)).unlike("kinds", 0, 4);
        }
        new Edge("40 kinds: the first and the last DAY", row(0, 0, 19999, 199099)).is(1, "kinds", 2, 4);
        new Edge("40 kinds: a DATE may be above all DAYS", row(19999, 199099, 0, 0)).is(1, "kinds", 2, 4);
        new Edge("40 kinds: a DATE that is none is of no KIND", row(0, MOST)).is(0, "kinds", 0, 4);
        new Edge("40 kinds: UNLIKE, though no KIND fits", row(0, 5, 20000, 0)).unlike("kinds", 0, 4);
    }

    private static void dueKinds(int bits, int c, int... letters) {
        new Edge("40 kinds by " + java.util.Arrays.toString(letters), row(letters)).is(bits, "kinds", c, 4);
    }

    private static void kinds() {
        // with LEAP 2, ORDER 450, GAP 9: days 449 and 450 by each KIND
        dueKinds(1 + 4 + 32, 2, 449, 4049);
        dueKinds(2 + 16, 2, 449, 4047);
        dueKinds(8, 2, 449, 4057);
        dueKinds(1, 2, 450, 4050);
        dueKinds(2, 2, 450, 4048);
        dueKinds(4 + 32, 2, 450, 4059);
        dueKinds(8, 2, 450, 4058);
        dueKinds(16, 2, 450, 4057);
        dueKinds(4 + 32, 2, 1449, 14058);
        dueKinds(4, 2, 1450, 14059);
        dueKinds(32, 2, 1450, 14068);
        dueKinds(0, 2, 450, 4059, 450, 4050);
        dueKinds(4 + 32, 2, 449, 4049, 450, 4059);
        int[] full = new int[40];
        full[38] = 450;
        full[39] = 4059;
        dueKinds(4 + 32, 2, full);
        full[0] = 450;
        full[1] = 4050;
        dueKinds(0, 2, full);
    }

    private static void kindsWithTheTownsFigures() {
        // whatever KIND the town is of: an ordered one, a moon, a plain one
        dueKinds(4 + 32, 1, 550, 5057);
        dueKinds(16, 1, 550, 5055);
        dueKinds(4, 3, 19999, 200004);
        dueKinds(32, 3, 19999, 200009);
        dueKinds(1 + 4 + 32, 0, 19999, 199099);
        dueKinds(8, 0, 19999, 204007);
    }
}
