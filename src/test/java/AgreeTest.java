/** Promises 31 to 33: when calendars agree, and how far they are apart. */
public final class AgreeTest {
    public static void main(String[] args) {
        agree();
        agreeAgain();
        till();
        apart();
        wrong();
        Check.end();
    }

    private static void agree() {
        LostDays x = Make.towns(Make.FIVE);
        Check.tells(x, "to the eve of the order", x.agree(0, 2, 0, 449), 450, 0);
        Check.tells(x, "to the order", x.agree(0, 2, 0, 450), 450, 0);
        Check.tells(x, "the eve alone", x.agree(2, 0, 449, 449), 1, 449);
        Check.tells(x, "never", x.agree(0, 2, 450, 19999), 0, LostDays.NONE);
        Check.tells(x, "a town with itself", x.agree(4, 4, 0, 19999), 20000, 0);
        Check.tells(x, "a town with itself from within", x.agree(4, 4, 7, 1234), 1228, 7);
        Check.tells(x, "years of moons", x.agree(0, 4, 90, 200), 8, 90);
        Check.tells(x, "a leaped one and an ordered one", x.agree(1, 3, 500, 600), 50, 500);
    }

    private static void agreeAgain() {
        // the long year 0 puts the leaped one a day behind, the gap of 1 puts an ordered one right again
        LostDays x = Make.towns("c200000 o902001");
        Check.tells(x, "apart, then together", x.agree(0, 1, 100, 900), 701, 200);
        Check.tells(x, "from day 200 on", x.agree(0, 1, 200, 300), 101, 200);
    }

    private static void till() {
        LostDays x = Make.towns("c200000 o902001 x204509");
        Check.due("today", x.till(0, 1), 0);
        x.go(99);
        Check.due("today, the last", x.till(0, 1), 0);
        x.go(1);
        Check.due("from day 100 to day 200", x.till(0, 1), 100);
        Check.due("from day 100 to day 200, the other way", x.till(1, 0), 100);
        x.go(99);
        Check.due("tomorrow", x.till(0, 1), 1);
        x.go(1);
        Check.due("today again", x.till(0, 1), 0);
        x.go(250);
        Check.due("never again", x.till(0, 2), LostDays.NONE);
        Check.due("with itself", x.till(2, 2), 0);
        x.go(9999);
        x.go(9550);
        Check.due("with itself on the last day", x.till(2, 2), 0);
        Check.due("asked() is not told", x.asked(), 0);
    }

    private static void apart() {
        LostDays x = Make.towns("c200000 x204509 d200103 o405507 l200009");
        Check.tells(x, "apart(0, 1, 0, 449)", x.apart(0, 1, 0, 449), 0, 0);
        Check.tells(x, "apart(0, 1, 0, 450)", x.apart(0, 1, 0, 450), 9, 450);
        Check.tells(x, "apart(1, 0, 460, 470)", x.apart(1, 0, 460, 470), 9, 460);
        Check.tells(x, "apart(0, 2, 0, 1009)", x.apart(0, 2, 0, 1009), 3, 10);
        Check.tells(x, "apart(0, 2, 0, 1010)", x.apart(0, 2, 0, 1010), 6, 1010);
        Check.tells(x, "apart(2, 0, 5, 19999)", x.apart(2, 0, 5, 19999), 6, 1010);
        Check.tells(x, "apart(1, 3, 0, 19999)", x.apart(1, 3, 0, 19999), 9, 450);
        Check.tells(x, "apart(1, 3, 550, 19999)", x.apart(1, 3, 550, 19999), 2, 550);
        Check.tells(x, "counts of leaped ones are alike", x.apart(0, 4, 0, 19999), 0, 0);
        Check.tells(x, "apart(0, 4, 17, 17)", x.apart(0, 4, 17, 17), 0, 17);
    }

    private static void wrong() {
        LostDays x = Make.towns(Make.FIVE);
        int[][] calls = {{5, 0, 0, 9}, {0, 5, 0, 9}, {-1, 0, 0, 9}, {0, -1, 0, 9}, {0, 1, -1, 9}, {0, 1, 0, 20000},
            {0, 1, 9, 8}};
        for (int[] a : calls) {
            String told = a[0] + ", " + a[1] + ", " + a[2] + ", " + a[3] + ")";
            Check.due("agree(" + told, x.agree(a[0], a[1], a[2], a[3]), LostDays.BAD);
            Check.due("apart(" + told, x.apart(a[0], a[1], a[2], a[3]), LostDays.BAD);
        }
        Check.due("till(5, 0)", x.till(5, 0), LostDays.BAD);
        Check.due("till(0, 5)", x.till(0, 5), LostDays.BAD);
        Check.due("till(-1, 0)", x.till(-1, 0), LostDays.BAD);
        Check.due("till(0, -1)", x.till(0, -1), LostDays.BAD);
        Check.due("asked() is kept", x.asked(), 0);
    }
}
