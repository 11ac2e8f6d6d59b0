/** Promises 38 to 40: voyages and letters. */
public final class LettersTest {
    private static final int NOTHING = 1, UNLIKE = 3, SIZE = 5;

    public static void main(String[] args) {
        voyage();
        dated();
        kinds();
        wrongKinds();
        Check.end();
    }

    private static void voyage() {
        LostDays x = Make.towns(Make.FIVE);
        Check.tells(x, "ahead of itself", x.voyage(2, 0, 450, 3), 1, -6);
        Check.tells(x, "the other way", x.voyage(0, 2, 449, 1), 1, 10);
        Check.tells(x, "at once", x.voyage(0, 2, 449, 0), 1, 0);
        Check.tells(x, "within a town, over the gap", x.voyage(2, 2, 449, 1), 1, 10);
        Check.tells(x, "by counts, not by years", x.voyage(1, 4, 0, 999), 1, 999);
        Check.tells(x, "to the last day", x.voyage(0, 0, 19000, 999), 1, 999);
        Check.due("beyond it", x.voyage(0, 0, 19001, 999), LostDays.SPENT);
        Check.due("voyage(0, 0, 0, 1000)", x.voyage(0, 0, 0, 1000), LostDays.BAD);
        Check.due("voyage(0, 0, 19999, -1)", x.voyage(0, 0, 19999, -1), LostDays.BAD);
        Check.due("voyage(0, 0, 20000, 1)", x.voyage(0, 0, 20000, 1), LostDays.BAD);
        Check.due("voyage(0, 0, -1, 1)", x.voyage(0, 0, -1, 1), LostDays.BAD);
        Check.due("voyage(5, 0, 19999, 1)", x.voyage(5, 0, 19999, 1), LostDays.BAD);
        Check.due("voyage(0, -1, 0, 1)", x.voyage(0, -1, 0, 1), LostDays.BAD);
        Check.due("asked() is kept", x.asked(), 999);
    }

    private static void dated() {
        LostDays x = Make.towns(Make.FIVE);
        Check.due("all but the cut one", x.dated(4055, 0, 19999), 1 + 2 + 8 + 16);
        Check.due("100 is of long years", x.dated(100, 0, 19999), 2 + 8);
        Check.due("on the one day", x.dated(4060, 451, 451), 4);
        Check.due("by none", x.dated(4060, 300, 440), 0);
        Check.due("the first day, too", x.dated(4060, 460, 461), 1 + 2 + 8);
        Check.due("the last day, too", x.dated(4060, 452, 460), 1 + 16);
        Check.due("no such date", x.dated(Integer.MAX_VALUE, 0, 19999), 0);
        Check.due("dated(0, 5, 4)", x.dated(0, 5, 4), LostDays.BAD);
        Check.due("dated(0, -1, 4)", x.dated(0, -1, 4), LostDays.BAD);
        Check.due("dated(0, 0, 20000)", x.dated(0, 0, 20000), LostDays.BAD);
        Check.due("dated(-1, 0, 19999)", x.dated(-1, 0, 19999), LostDays.BAD);
        Check.due("without towns", new LostDays().dated(0, 0, 0), 0);
        Check.due("asked() is not told", x.asked(), 0);
    }

    private static void kinds() {
        LostDays x = Make.towns("c401005");
        dueKinds(x, 63, 97, 97, 0, 0);
        dueKinds(x, 63 - 8, 99, 99);
        x.row(1, 40);
        Check.due("kinds by twenty letters", x.kinds(0, 1), 63);
        x.lay(1, 38, 100);
        x.lay(1, 39, 100);
        Check.due("kinds by the last of twenty", x.kinds(0, 1), 2);
        dueKinds(x, 63);
        dueKinds(x, 1, 100, 1000);
        dueKinds(x, 2, 100, 100);
        dueKinds(x, 4 + 32, 100, 1005);
        dueKinds(x, 8, 98, 1000);
        dueKinds(x, 16, 100, 1004);
        dueKinds(x, 32, 100, 1005, 1100, 11010);
        dueKinds(x, 4, 100, 1005, 1100, 11005);
        dueKinds(x, 0, 100, 1005, 100, 1000);
        dueKinds(x, 0, 100, 999);
        dueKinds(x, 0, 19999, Integer.MAX_VALUE);
        Check.tells(x, "the kind of the town is as it was", x.town(0, 0), 1, 0);
        x.gap(0, 0);
        dueKinds(x, 1 + 4 + 32, 100, 1000);
    }

    private static void dueKinds(LostDays x, int bits, int... letters) {
        Make.fill(x, 1, letters);
        Check.due("kinds by " + java.util.Arrays.toString(letters), x.kinds(0, 1), bits);
    }

    private static void wrongKinds() {
        LostDays x = Make.towns(Make.FIVE);
        Check.due("kinds(5, 0)", x.kinds(5, 0), LostDays.BAD);
        Check.due("kinds(-1, 0)", x.kinds(-1, 0), LostDays.BAD);
        Check.due("kinds(0, 6)", x.kinds(0, 6), LostDays.BAD);
        Check.due("kinds(0, -1)", x.kinds(0, -1), LostDays.BAD);
        Check.finds(x, NOTHING, "kinds(0, 0)", () -> x.kinds(0, 0));
        Make.fill(x, 0, -1, -1, -1);
        Check.finds(x, SIZE, "not even", () -> x.kinds(0, 0));
        int[][] wrong = {{-1, 0}, {20000, 0}, {0, -1}};
        for (int[] pair : wrong) {
            Make.fill(x, 0, 5, 4, pair[0], pair[1]);
            Check.finds(x, UNLIKE, "kinds by " + pair[0] + ", " + pair[1], () -> x.kinds(0, 0));
        }
    }
}
