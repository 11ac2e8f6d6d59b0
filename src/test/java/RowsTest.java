/** Promises 1 to 7: a new object, rows. */
public final class RowsTest {
    private static final int NOTHING = 1, BEYOND = 2, NOUGHT = 4, SIZE = 5;

    public static void main(String[] args) {
        newObject();
        row();
        layAndAt();
        tear();
        copy();
        mean();
        Check.end();
    }

    private static void newObject() {
        LostDays x = new LostDays();
        for (int what = 0; what <= 6; what++) {
            Check.due("new: count(" + what + ")", x.count(what), 0);
        }
        for (int r = 0; r < 6; r++) {
            int row = r;
            Check.finds(x, NOTHING, "new: at(" + r + ", 0)", () -> x.at(row, 0));
        }
        for (int t = 0; t < 4; t++) {
            int text = t;
            Check.finds(x, NOTHING, "new: fault(" + t + ")", () -> x.fault(text));
        }
        Check.due("new: town(0, 0)", x.town(0, 0), LostDays.BAD);
        Check.due("new: asked()", x.asked(), 0);
        Check.due("new: upper()", x.upper(), 0);
        Check.due("new: lower()", x.lower(), 1);
    }

    private static void row() {
        LostDays x = new LostDays();
        Check.due("row(0, 0)", x.row(0, 0), 0);
        Check.due("row(5, 40)", x.row(5, 40), 40);
        Check.due("count(4)", x.count(4), 2);
        Check.due("row(5, 41)", x.row(5, 41), LostDays.BAD);
        Check.due("row(-1, 3)", x.row(-1, 3), LostDays.BAD);
        Check.due("row(6, 3)", x.row(6, 3), LostDays.BAD);
        Check.due("row(6, -3)", x.row(6, -3), LostDays.BAD);
        Check.due("finding()", x.finding(), 0);
        Check.finds(x, SIZE, "row(5, -1)", () -> x.row(5, -1));
        Check.finds(x, SIZE, "row(5, least)", () -> x.row(5, Integer.MIN_VALUE));
        Check.tells(x, "at(5, 39)", x.at(5, 39), 1, 0);
        Check.due("lay(5, 2, 7)", x.lay(5, 2, 7), 1);
        Check.due("row(5, 3) anew", x.row(5, 3), 3);
        Check.tells(x, "at(5, 2) anew", x.at(5, 2), 1, 0);
        Check.due("row(5, 40) anew", x.row(5, 40), 40);
        Check.tells(x, "at(5, 2) anew again", x.at(5, 2), 1, 0);
        x.lay(5, 0, 8);
        x.lay(5, 39, 9);
        Check.due("row(5, 40) once more", x.row(5, 40), 40);
        Check.tells(x, "at(5, 0)", x.at(5, 0), 1, 0);
        Check.tells(x, "at(5, 39)", x.at(5, 39), 1, 0);
    }

    private static void layAndAt() {
        LostDays x = new LostDays();
        x.row(1, 3);
        Check.tells(x, "lay(1, 2, -7)", x.lay(1, 2, -7), 1, 0);
        Check.tells(x, "lay(1, 2, most)", x.lay(1, 2, Integer.MAX_VALUE), 1, -7);
        Check.tells(x, "at(1, 2)", x.at(1, 2), 1, Integer.MAX_VALUE);
        Check.due("lay(-1, 0, 1)", x.lay(-1, 0, 1), LostDays.BAD);
        Check.due("lay(6, 0, 1)", x.lay(6, 0, 1), LostDays.BAD);
        Check.due("at(-1, 0)", x.at(-1, 0), LostDays.BAD);
        Check.due("at(6, 0)", x.at(6, 0), LostDays.BAD);
        Check.finds(x, NOTHING, "lay(0, 99, 1)", () -> x.lay(0, 99, 1));
        Check.finds(x, NOTHING, "at(0, -1)", () -> x.at(0, -1));
        Check.finds(x, BEYOND, "lay(1, 3, 1)", () -> x.lay(1, 3, 1));
        Check.finds(x, BEYOND, "lay(1, -1, 1)", () -> x.lay(1, -1, 1));
        Check.finds(x, BEYOND, "at(1, 3)", () -> x.at(1, 3));
        Check.finds(x, BEYOND, "at(1, least)", () -> x.at(1, Integer.MIN_VALUE));
        Check.finds(x, BEYOND, "at(1, most)", () -> x.at(1, Integer.MAX_VALUE));
        Check.due("asked() is kept by refusals", x.asked(), Integer.MAX_VALUE);
    }

    private static void tear() {
        LostDays x = new LostDays();
        x.row(2, 4);
        Check.due("tear(2)", x.tear(2), 1);
        Check.due("count(4)", x.count(4), 0);
        Check.finds(x, NOTHING, "tear(2) again", () -> x.tear(2));
        Check.due("tear(6)", x.tear(6), LostDays.BAD);
        Check.due("tear(-1)", x.tear(-1), LostDays.BAD);
        Check.finds(x, NOTHING, "at(2, 0)", () -> x.at(2, 0));
    }

    private static void copy() {
        LostDays x = new LostDays();
        Make.fill(x, 0, 1, 2, 3, 4, 5);
        Check.due("copy(0, 0, 0, 1, 4)", x.copy(0, 0, 0, 1, 4), 1);
        Make.dueRow(x, "row 0", 0, 1, 1, 2, 3, 4);
        Check.due("copy(0, 2, 0, 0, 3)", x.copy(0, 2, 0, 0, 3), 1);
        Make.dueRow(x, "row 0", 0, 2, 3, 4, 3, 4);
        x.row(1, 2);
        Check.due("copy(0, 3, 1, 0, 2)", x.copy(0, 3, 1, 0, 2), 1);
        Make.dueRow(x, "row 1", 1, 3, 4);
        Check.due("copy(0, 5, 1, 2, 0)", x.copy(0, 5, 1, 2, 0), 1);
        Check.due("copy(6, 0, 1, 0, -1)", x.copy(6, 0, 1, 0, -1), LostDays.BAD);
        Check.due("copy(0, 0, -1, 0, 1)", x.copy(0, 0, -1, 0, 1), LostDays.BAD);
        Check.finds(x, SIZE, "copy(0, 0, 2, 0, -1)", () -> x.copy(0, 0, 2, 0, -1));
        Check.finds(x, NOTHING, "copy(0, 9, 2, 0, 1)", () -> x.copy(0, 9, 2, 0, 1));
        Check.finds(x, NOTHING, "copy(2, 0, 0, 9, 1)", () -> x.copy(2, 0, 0, 9, 1));
        Check.finds(x, BEYOND, "copy(0, 3, 1, 0, 3)", () -> x.copy(0, 3, 1, 0, 3));
        Check.finds(x, BEYOND, "copy(0, 0, 1, 1, 2)", () -> x.copy(0, 0, 1, 1, 2));
        Check.finds(x, BEYOND, "copy(0, -1, 1, 0, 1)", () -> x.copy(0, -1, 1, 0, 1));
        Check.finds(x, BEYOND, "copy(0, 0, 1, -1, 1)", () -> x.copy(0, 0, 1, -1, 1));
        Check.finds(x, BEYOND, "copy(0, most, 1, 0, most)",
                () -> x.copy(0, Integer.MAX_VALUE, 1, 0, Integer.MAX_VALUE));
        Check.finds(x, BEYOND, "copy(0, 6, 1, 0, 0)", () -> x.copy(0, 6, 1, 0, 0));
        Make.dueRow(x, "row 0", 0, 2, 3, 4, 3, 4);
        Make.dueRow(x, "row 1", 1, 3, 4);
    }

    private static void mean() {
        LostDays x = new LostDays();
        Make.fill(x, 0, 3, 4, 4);
        Check.tells(x, "mean of 3, 4, 4", x.mean(0), 1, 3);
        Make.fill(x, 0, -3, -4, -4);
        Check.tells(x, "mean of -3, -4, -4", x.mean(0), 1, -3);
        Make.fill(x, 0, Integer.MAX_VALUE, Integer.MAX_VALUE);
        Check.tells(x, "mean of the most", x.mean(0), 1, Integer.MAX_VALUE);
        Make.fill(x, 0, Integer.MIN_VALUE, Integer.MIN_VALUE);
        Check.tells(x, "mean of the least", x.mean(0), 1, Integer.MIN_VALUE);
        x.row(3, 40);
        x.lay(3, 39, 119);
        Check.tells(x, "mean of forty", x.mean(3), 1, 2);
        x.lay(3, 0, 1);
        Check.tells(x, "mean of forty, the first, too", x.mean(3), 1, 3);
        x.row(1, 0);
        Check.finds(x, NOUGHT, "mean of none", () -> x.mean(1));
        Check.finds(x, NOTHING, "mean of a missing row", () -> x.mean(2));
        Check.due("mean(6)", x.mean(6), LostDays.BAD);
        Check.due("mean(-1)", x.mean(-1), LostDays.BAD);
        Check.due("asked() is kept", x.asked(), 3);
    }
}
