/** Promises 47 to 53: what is told. */
public final class ToldTest {
    public static void main(String[] args) {
        asked();
        fractions();
        count();
        findings();
        digest();
        digestPlaceByPlace();
        Check.end();
    }

    private static void asked() {
        LostDays x = Make.towns(Make.FIVE);
        Check.due("before", x.asked(), 0);
        Make.fill(x, 0, 5, 8);
        x.mean(0);
        Check.due("by mean()", x.asked(), 6);
        x.row(1, 3);
        x.date(0, 7);
        x.day(0, 7);
        x.same(0, 7, 1);
        x.left(2, 2);
        x.dates(2, 5, 6, 2);
        x.age(0, 0);
        x.till(0, 1);
        x.rent(0, 5, 0, 7);
        x.dated(3, 0, 9);
        x.kinds(0, 2);
        x.feast(0, 3);
        x.together(0, 1, 0, 3);
        x.keeps(1, 2, 3);
        x.fails(2, 1, 3);
        x.lots(0, 1, 5, 5);
        x.mark(1, 1);
        x.order(2, 450);
        x.go(3);
        x.keep(0);
        x.on(0);
        x.copy(0, 0, 1, 0, 1);
        x.tear(1);
        Check.due("kept by all that do not tell", x.asked(), 6);
        x.town(2, 2);
        Check.due("by town()", x.asked(), 450);
        x.at(0, 9);
        x.lay(0, -1, 7);
        x.mean(3);
        x.town(9, 0);
        x.year(0, 251);
        x.between(2, 4055, 0);
        x.where(-1, 0);
        x.eldest(4);
        x.agree(0, 1, 3, 2);
        x.apart(0, 1, 3, 2);
        x.due(2, 4055, 1);
        x.quarrels(3);
        x.change(0, 3, 0, 3);
        x.voyage(0, 0, 19999, 5);
        x.moon(-1);
        Check.due("kept by all that are refused", x.asked(), 450);
        Check.due("due() that is none", x.due(1, 100, 1), LostDays.NONE);
        Check.due("told by it", x.asked(), 200);
        LostDays none = new LostDays();
        none.moon(1);
        none.eldest(0);
        Check.due("kept by an eldest() that is none", none.asked(), 28);
    }

    private static void fractions() {
        LostDays x = Make.towns(Make.FIVE);
        Check.due("upper() before", x.upper(), 0);
        Check.due("lower() before", x.lower(), 1);
        x.rent(0, 6, 0, 10);
        Check.due("upper() of 60 by 100", x.upper(), 3);
        Check.due("lower() of 60 by 100", x.lower(), 5);
        x.rent(9, 6, 0, 10);
        Check.due("upper() is kept", x.upper(), 3);
        x.rent(0, 6, 10, 10);
        Check.due("upper() of none", x.upper(), 0);
        Check.due("lower() of none", x.lower(), 1);
    }

    private static void count() {
        LostDays x = Make.towns("l200000 o200000 x200000 d200000 o300000");
        x.go(12);
        x.row(0, 1);
        x.row(5, 0);
        x.keep(0);
        x.keep(2);
        x.keep(2);
        int[] want = {5, 12, 3, 2, 2, 1, 2};
        for (int what = 0; what <= 6; what++) {
            Check.due("count(" + what + ")", x.count(what), want[what]);
        }
        Check.due("count(7)", x.count(7), LostDays.BAD);
        Check.due("count(-1)", x.count(-1), LostDays.BAD);
        LostDays y = Make.towns("c200000 m200000");
        Check.due("no leaped ones", y.count(2), 0);
        Check.due("no cut ones", y.count(3), 0);
    }

    private static void findings() {
        LostDays x = new LostDays();
        Check.due("finding() before", x.finding(), 0);
        x.row(9, 9);
        x.go(1);
        Check.due("finding() before any", x.finding(), 0);
        x.at(0, 0);
        x.row(0, 0);
        x.at(0, 0);
        x.row(0, -1);
        x.row(0, -1);
        Make.write(x, 0, "c200000");
        x.almanac(0);
        x.mark(0, 1);
        x.day(0, 100);
        int[] want = {1, 1, 1, 1, 2};
        for (int f = 1; f <= 5; f++) {
            Check.due("findings(" + f + ")", x.findings(f), want[f - 1]);
        }
        Check.due("finding()", x.finding(), 4);
        x.day(0, 99);
        Check.due("finding() is kept", x.finding(), 4);
        Check.due("findings(0)", x.findings(0), LostDays.BAD);
        Check.due("findings(6)", x.findings(6), LostDays.BAD);
        Check.due("findings(-1)", x.findings(-1), LostDays.BAD);
    }

    private static void digest() {
        long h = 17;
        for (int i = 0; i < 7; i++) {
            h = 31 * h;
        }
        for (int i = 0; i < 3 + 6 + 4; i++) {
            h = 31 * h - 1;
        }
        Check.due("digest() of a new object", new LostDays().digest(), h);
        LostDays x = Make.towns(Make.FIVE);
        x.town(1, 1);
        x.digest();
        Check.due("digest() leaves asked() as it is", x.asked(), 4);
    }

    private static void digestPlaceByPlace() {
        LostDays x = Make.towns("l500000 d300017");
        x.go(5);
        x.keep(1);
        x.row(3, 2);
        x.lay(3, 1, -9);
        x.text(1, 1);
        x.put(1, 0, 255);
        int[] ahead = {2, 5, 1, 1, 1, 2, 1, 1, 5, 0, 0, 5, 5, 3, 1, 7, 12, -1, 5, -1, -1, -1, -1, 2, 0, -9, -1, -1, 15};
        long h = 17;
        for (int v : ahead) {
            h = 31 * h + v;
        }
        String text = "l500000 d300017";
        for (int i = 0; i < text.length(); i++) {
            h = 31 * h + text.charAt(i);
        }
        for (int v : new int[] {1, -1, -1, -1}) {
            h = 31 * h + v;
        }
        Check.due("digest(), place by place", x.digest(), h);
    }
}
