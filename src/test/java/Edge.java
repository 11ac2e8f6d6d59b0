import java.util.ArrayList;
import java.util.List;
import java.util.Set;
import java.util.function.Consumer;

/**
 * A sentence of the document that names a boundary case, with calls at both sides of the boundary. Each call is
 * made on one of two objects that were made alike, and then both must tell the same of all that it may not change.
 */
final class Edge {
    static final int NOTHING = 1, BEYOND = 2, UNLIKE = 3, NOUGHT = 4, SIZE = 5;
    static final int LEAST = Integer.MIN_VALUE, MOST = Integer.MAX_VALUE;

    private static final Set<String> CHANGE = Set.of("row", "lay", "tear", "copy", "text", "put", "almanac", "order",
            "gap", "leap", "go", "back", "keep", "on", "left", "dates");
    private static final Set<String> TELL = Set.of("lay", "at", "mean", "town", "year", "between", "where", "eldest",
            "agree", "apart", "due", "quarrels", "change", "voyage", "moon");

    private final String sentence;
    private final Consumer<LostDays> maker;

    Edge(String sentence, Consumer<LostDays> maker) {
        this.sentence = sentence;
        this.maker = maker;
    }

    /** All that an object tells; held is what only changes by calls that change something. */
    private record Told(int asked, long upper, long lower, int finding, List<Integer> findings, List<Long> held) {
        static Told by(LostDays x) {
            List<Integer> findings = new ArrayList<>();
            for (int f = 1; f <= 5; f++) {
                findings.add(x.findings(f));
            }
            // a record's parts are read in this order: what is held is read last, as reading it asks and finds
            return new Told(x.asked(), x.upper(), x.lower(), x.finding(), findings, held(x));
        }

        private static List<Long> held(LostDays x) {
            List<Long> held = new ArrayList<>();
            held.add(x.digest());
            for (int what = 0; what <= 6; what++) {
                held.add((long) x.count(what));
            }
            for (int c = 0; c < x.count(0); c++) {
                for (int what = 0; what <= 4; what++) {
                    x.town(c, what);
                    held.add((long) x.asked());
                }
            }
            for (int k = 0; k <= 2; k++) {
                held.add((long) x.on(k));
                held.add(x.digest());
            }
            return held;
        }
    }

    private LostDays make() {
        LostDays x = new LostDays();
        maker.accept(x);
        return x;
    }

    private String named(String name, int... numbers) {
        return sentence + ": " + Call.told(name, numbers);
    }

    /** A call that is not refused. */
    Edge is(long want, String name, int... numbers) {
        LostDays x = make();
        Check.due(named(name, numbers), Call.answer(x, name, numbers), want);
        alikeButFor(Told.by(x), Told.by(make()), name, numbers);
        return this;
    }

    /** A call that is not refused, and tells something by asked(). */
    Edge tells(long want, int told, String name, int... numbers) {
        LostDays x = make();
        Call.answer(x, name, numbers);
        Check.due(named(name, numbers) + ", asked()", x.asked(), told);
        return is(want, name, numbers);
    }

    private void alikeButFor(Told one, Told other, String name, int... numbers) {
        String call = named(name, numbers);
        Check.that(call + " finds nothing", one.finding == other.finding && one.findings.equals(other.findings));
        Check.that(call + " leaves asked()", TELL.contains(name) || one.asked == other.asked);
        Check.that(call + " leaves upper(), lower()",
                name.equals("rent") || one.upper == other.upper && one.lower == other.lower);
        Check.that(call + " changes nothing", CHANGE.contains(name) || one.held.equals(other.held));
    }

    Edge bad(String name, int... numbers) {
        return refused(LostDays.BAD, name, numbers);
    }

    Edge state(String name, int... numbers) {
        return refused(LostDays.STATE, name, numbers);
    }

    Edge spent(String name, int... numbers) {
        return refused(LostDays.SPENT, name, numbers);
    }

    /** NONE is no refusal, but tells nothing by asked() unless a promise says so. */
    Edge none(String name, int... numbers) {
        return refused(LostDays.NONE, name, numbers);
    }

    private Edge refused(int answer, String name, int... numbers) {
        LostDays x = make();
        Check.due(named(name, numbers), Call.answer(x, name, numbers), answer);
        Check.that(named(name, numbers) + " changes nothing at all", Told.by(x).equals(Told.by(make())));
        return this;
    }

    Edge nothing(String name, int... numbers) {
        return finds(NOTHING, name, numbers);
    }

    Edge beyond(String name, int... numbers) {
        return finds(BEYOND, name, numbers);
    }

    Edge unlike(String name, int... numbers) {
        return finds(UNLIKE, name, numbers);
    }

    Edge nought(String name, int... numbers) {
        return finds(NOUGHT, name, numbers);
    }

    Edge size(String name, int... numbers) {
        return finds(SIZE, name, numbers);
    }

    private Edge finds(int finding, String name, int... numbers) {
        String call = named(name, numbers);
        LostDays x = makeWithAnotherFinding(finding);
        Check.due(call, Call.answer(x, name, numbers), LostDays.FINDING);
        Told one = Told.by(x);
        Told other = Told.by(makeWithAnotherFinding(finding));
        Check.due(call + ", finding()", one.finding, finding);
        for (int f = 1; f <= 5; f++) {
            int more = f == finding ? 1 : 0;
            Check.due(call + ", findings(" + f + ")", one.findings.get(f - 1), other.findings.get(f - 1) + more);
        }
        Check.that(call + " changes nothing but what was found", one.asked == other.asked && one.upper == other.upper
                && one.lower == other.lower && one.held.equals(other.held));
        return this;
    }

    /** So that finding() must change; no test here writes text 3. */
    private LostDays makeWithAnotherFinding(int finding) {
        LostDays x = make();
        if (finding == NOTHING) {
            x.row(0, -1);
        } else {
            x.fault(3);
        }
        Check.that(sentence + ": another finding is the latest", x.finding() != 0 && x.finding() != finding);
        return x;
    }

    /** Numbers at a place of a call are least .. most: both are taken, and those outside are BAD. */
    Edge within(int place, int least, int most, String name, int... numbers) {
        for (int v : new int[] {least, most}) {
            int[] changed = with(numbers, place, v);
            Check.that(named(name, changed) + " is not BAD", Call.answer(make(), name, changed) != LostDays.BAD);
        }
        outside(place, least, most, name, numbers);
        return this;
    }

    private void outside(int place, int least, int most, String name, int... numbers) {
        bad(name, with(numbers, place, least - 1));
        bad(name, with(numbers, place, LEAST));
        bad(name, with(numbers, place, most + 1));
        bad(name, with(numbers, place, MOST));
    }

    private static int[] with(int[] numbers, int place, int v) {
        int[] changed = numbers.clone();
        changed[place] = v;
        return changed;
    }
}
