/** Counts and prints the calls whose answer is not the one that is due. */
final class Check {
    private static int wrong = 0;

    private Check() {
    }

    static void due(String call, long got, long want) {
        if (got != want) {
            wrong++;
            System.out.println(call + " answered " + got + ", due is " + want);
        }
    }

    static void that(String what, boolean holds) {
        if (!holds) {
            wrong++;
            System.out.println("does not hold: " + what);
        }
    }

    /** A refusal by a finding: the answer, the latest finding, and that it was counted. */
    static void finds(LostDays x, int finding, String call, java.util.function.IntSupplier answer) {
        int before = x.findings(finding);
        due(call, answer.getAsInt(), LostDays.FINDING);
        due(call + ", finding()", x.finding(), finding);
        due(call + ", findings(" + finding + ")", x.findings(finding), before + 1);
    }

    /** A call that tells something by asked(). */
    static void tells(LostDays x, String call, long got, long want, int told) {
        due(call, got, want);
        due(call + ", asked()", x.asked(), told);
    }

    static void end() {
        System.exit(wrong == 0 ? 0 : 1);
    }
}
