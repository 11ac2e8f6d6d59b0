/** Makes objects for tests. */
final class Make {
    /** The kinds in their order but for the doubled one; those that cut do so on 450, 550. */
    static final String FIVE = "c200000 l400000 x204509 o405507 m299995";

    private Make() {
    }

    static void write(LostDays x, int t, String text) {
        x.text(t, text.length());
        for (int i = 0; i < text.length(); i++) {
            if (text.charAt(i) != ' ') {
                x.put(t, i, text.charAt(i));
            }
        }
    }

    static LostDays towns(String text) {
        LostDays x = new LostDays();
        write(x, 0, text);
        x.almanac(0);
        return x;
    }

    static void fill(LostDays x, int r, int... places) {
        x.row(r, places.length);
        for (int i = 0; i < places.length; i++) {
            x.lay(r, i, places[i]);
        }
    }

    /** Place i of a row, or a number that no test lays, if there is none. */
    static int place(LostDays x, int r, int i) {
        return x.at(r, i) == 1 ? x.asked() : -987654321;
    }
}
