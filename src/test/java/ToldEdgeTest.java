import java.util.function.Consumer;

/** Boundary cases of promises 47 to 53, sentence by sentence: what is told. */
public final class ToldEdgeTest {
    private static final int LEAST = Edge.LEAST, MOST = Edge.MOST, NONE = LostDays.NONE;

    public static void main(String[] args) {
        askedBefore();
        askedByEach();
        askedOfNone();
        upperAndLower();
        count();
        countEmptyAndFull();
        finding();
        findings();
        findingsOfOtherRefusals();
        manyFindings();
        digest();
        digestOfFullOnes();
        Check.end();
    }

    private static void askedBefore() {
        new Edge("47 asked: 0 before", x -> { }).is(0, "asked");
        new Edge("47 asked: 0 before, whatever was refused", x -> {
            x.at(0, 0);
            x.town(0, 0);
            x.moon(20000);
            x.where(-1, 0);
            x.eldest(0);
            x.eldest(1);
        }).is(0, "asked");
        new Edge("47 asked: it stays told", Make::full).is(77, "asked");
    }

    /** Each call that tells does so over what was told, and each other one leaves it (Edge looks at that). */
    private static void askedByEach() {
        new Edge("47 asked: by each", Make::full).tells(1, 7, "lay", 5, 0, 3).tells(1, -7, "at", 5, 1)
                .tells(1, 16, "mean", 5).tells(1, 450, "town", 2, 2).tells(100, 91, "year", 2, 4)
                .tells(1, 100, "between", 0, 0, 1000).tells(5, 31, "where", 5, 5).tells(0, 7, "eldest", 0)
                .tells(10, 0, "agree", 0, 1, 0, 9).tells(0, 0, "apart", 0, 1, 0, 9).tells(100, 100, "due", 0, 0, 1)
                .tells(1, 1, "quarrels", 2).tells(0, 1, "change", 0, 2, 0, 9).tells(1, 9, "voyage", 0, 0, 0, 9)
                .tells(0, 28, "moon", 1);
        new Edge("47 asked: not by others", Make::full).is(5, "date", 0, 5).is(5, "day", 0, 5).is(5, "same", 0, 5, 2)
                .is(7, "age", 0, 0).none("till", 0, 2).is(1, "rent", 0, 5, 0, 9).is(31, "dated", 5, 5, 5)
                .is(4 + 32, "kinds", 2, 3).is(29, "feast", 0, 0).is(1, "together", 0, 2, 0, 0).is(2, "keeps", 1, 2, 9)
                .is(3, "fails", 2, 1, 4).is(40, "lots", 0, 0, 40, 1).is(5, "row", 4, 5).is(1, "tear", 5)
                .is(1, "copy", 0, 0, 5, 0, 1).is(5, "text", 1, 5).is(1099, "put", 0, 0, 32).is(5, "almanac", 0)
                .is(0, "mark", 4, 2).is(450, "order", 2, 9).is(9, "gap", 2, 1).is(4, "leap", 1, 9).is(701, "go", 1)
                .is(699, "back", 1).is(700, "keep", 1).is(10, "on", 0).is(9, "left", 2, 4).is(2, "dates", 0, 5, 6, 4)
                .is(5, "count", 0).is(2, "finding").is(1, "findings", 1);
    }

    private static void askedOfNone() {
        new Edge("47 asked: NONE as told, by agree()", Make::full).tells(0, NONE, "agree", 0, 2, 450, 451);
        new Edge("47 asked: NONE as told, by quarrels()", Make::full).tells(0, NONE, "quarrels", 1);
        new Edge("47 asked: as told, by a due() that is NONE", Make::full).tells(NONE, 450, "due", 2, 3050, 1);
        new Edge("47 asked: not by an eldest() that is NONE", x -> x.moon(1)).none("eldest", 0);
        new Edge("47 asked: not by others that are NONE", Make::full).none("till", 0, 2).none("fault", 0)
                .none("keeps", 0, 2, 9).none("fails", 2, 1, 2);
    }

    private static void upperAndLower() {
        new Edge("48 upper: 0 before", x -> { }).is(0, "upper");
        new Edge("49 lower: 1 before", x -> { }).is(1, "lower");
        new Edge("48 upper, 49 lower: told last", Make::full).is(3, "upper").is(5, "lower");
        Consumer<LostDays> nought = x -> {
            Make.full(x);
            x.rent(0, 0, 0, 5);
        };
        new Edge("48 upper, 49 lower: 0 by 1", nought).is(0, "upper").is(1, "lower");
        Consumer<LostDays> refused = x -> {
            Make.full(x);
            x.rent(0, 10000, 0, 5);
            x.rent(5, 1, 0, 5);
            x.rent(0, 1, 0, 401);
        };
        new Edge("48 upper, 49 lower: kept by what is refused", refused).is(3, "upper").is(5, "lower");
    }

    private static void count() {
        new Edge("50 count: BAD", Make::full).within(0, 0, 6, "count", 0);
        new Edge("50 count", Make::full).is(5, "count", 0).is(700, "count", 1).is(1, "count", 2).is(2, "count", 3)
                .is(5, "count", 4).is(3, "count", 5).is(2, "count", 6);
    }

    private static void countEmptyAndFull() {
        for (int what = 0; what <= 6; what++) {
            new Edge("50 count: of nothing", x -> { }).is(0, "count", what);
        }
        Consumer<LostDays> all = x -> {
            Make.towns(x, "l200000 o200000 l300000 o300000 o400000");
            Make.walk(x, 19999);
            for (int r = 0; r < 6; r++) {
                x.row(r, 0);
            }
            for (int t = 1; t < 4; t++) {
                x.text(t, 0);
            }
            for (int k = 0; k < 3; k++) {
                x.keep(k);
            }
        };
        int[] want = {5, 19999, 5, 0, 6, 4, 3};
        for (int what = 0; what <= 6; what++) {
            Check.due("50 count: of all, " + what, made(all).count(what), want[what]);
        }
        new Edge("50 count: CUT ones (DOUBLED, too)", Make.on(0, "x200000 d200000 x200000 d200000 d200000"))
                .is(0, "count", 2).is(5, "count", 3);
        new Edge("50 count: neither", Make.on(0, "c200000 m200000")).is(0, "count", 2).is(0, "count", 3);
    }

    private static LostDays made(Consumer<LostDays> maker) {
        LostDays x = new LostDays();
        maker.accept(x);
        return x;
    }

    private static void finding() {
        new Edge("51 finding: 0 before any", x -> { }).is(0, "finding");
        new Edge("51 finding: 0 before any, whatever else was refused", x -> {
            x.row(6, 0);
            x.go(0);
            x.keep(0);
            x.findings(0);
            x.findings(6);
            x.count(7);
        }).is(0, "finding");
        new Edge("51 finding: the latest", Make::full).is(2, "finding");
    }

    private static void findings() {
        new Edge("52 findings: BAD: FINDINGS 1 .. 5", Make::full).within(0, 1, 5, "findings", 1);
        new Edge("52 findings", Make::full).is(1, "findings", 1).is(3, "findings", 2).is(1, "findings", 3)
                .is(2, "findings", 4).is(3, "findings", 5);
        for (int f = 1; f <= 5; f++) {
            new Edge("52 findings: none before", x -> { }).is(0, "findings", f);
        }
    }

    private static void findingsOfOtherRefusals() {
        LostDays x = Make.full();
        x.row(6, 0);
        x.almanac(2);
        x.age(0, 7001);
        x.voyage(0, 0, 19999, 1);
        x.till(0, 2);
        x.findings(6);
        int[] want = {1, 3, 1, 2, 3};
        for (int f = 1; f <= 5; f++) {
            Check.due("52 findings: BAD, STATE, SPENT, NONE are none, " + f, x.findings(f), want[f - 1]);
        }
        Check.due("51 finding: BAD, STATE, SPENT, NONE are none", x.finding(), 2);
    }

    private static void manyFindings() {
        LostDays x = new LostDays();
        for (int i = 1; i <= 509; i++) {
            x.row(0, -1);
        }
        Check.due("52 findings: on all calls", x.findings(5), 509);
        Check.due("51 finding: on all calls", x.finding(), 5);
        Check.due("51 finding: on the 512th call", x.row(0, LEAST), LostDays.FINDING);
    }

    private static long digestOf(long... numbers) {
        long h = 17;
        for (long v : numbers) {
            h = 31 * h + v;
        }
        return h;
    }

    private static void digest() {
        // counts; three places to keep, six rows, four texts, all missing
        new Edge("53 digest: -1: missing", x -> { }).is(digestOf(0, 0, 0, 0, 0, 0, 0, -1, -1, -1, -1, -1, -1, -1, -1, -1,
                -1, -1, -1, -1), "digest");
        new Edge("53 digest: empty ones are not missing", x -> {
            x.row(0, 0);
            x.row(5, 0);
            x.text(0, 0);
            x.text(3, 0);
        }).is(digestOf(0, 0, 0, 0, 2, 2, 0, -1, -1, -1, 0, -1, -1, -1, -1, 0, 0, -1, -1, 0), "digest");
        new Edge("53 digest: kept on DAY 0 is not missing", x -> {
            Make.towns(x, "m299999");
            x.keep(0);
            x.go(1);
            x.keep(2);
            x.text(0, 1);
            x.put(0, 0, 128);
            x.row(1, 1);
            x.lay(1, 0, LEAST);
        }).is(digestOf(1, 1, 0, 0, 1, 1, 2, 3, 2, 9999, 9, 1, 0, -1, 1, -1, 1, LEAST, -1, -1, -1, -1, 1, -128, -1, -1, -1),
                "digest");
    }

    /** The last place of a full row, the last byte of a full text, the last town are all looked at. */
    private static void digestOfFullOnes() {
        LostDays x = Make.full();
        x.row(4, 40);
        x.text(3, 60);
        long before = x.digest();
        x.lay(4, 39, MOST);
        long laid = x.digest();
        Check.that("53 digest: the last place", laid != before);
        x.put(3, 59, 33);
        Check.that("53 digest: the last byte", x.digest() != laid);
        x.put(3, 59, 32);
        Check.due("53 digest: as it was", x.digest(), laid);
        x.gap(4, 4);
        Check.that("53 digest: the last TOWN", x.digest() != laid);
        x.gap(4, 3);
        x.lay(4, 39, 0);
        Check.due("53 digest: all as it was", x.digest(), before);
    }
}
