/** Promise 15: proved. */
public final class Promise15Proved {
    public static void main(String[] args) {
        withoutACertificate();
        rightBelowZero();
        allFactorsZero();
        withoutAssumptions();
        withALimit();
        withALimitAndAssumptions();
        onlyRowsThatStand();
        theFirstAndTheLastRow();
        nothingOfAnOlderCertificate();
        Checks.finish();
    }

    private static void withoutACertificate() {
        Checks.due("of a new object", new PlanCertificates().proved(), 0);
        // A rule that says 0 <= -1 proves nothing by itself.
        PlanCertificates x = Checks.withModel(1, 0, 9, 1, 1, 0, -1, 0);
        Checks.due("without a certificate", x.proved(), 0);
        x.begin();
        Checks.due("without numbers", x.proved(), 0);
        Checks.read(x, x.digest(), 0);
        Checks.due("without rows", x.proved(), 0);
        Checks.read(x, 0);
        Checks.due("with one", x.proved(), 1);
    }

    private static PlanCertificates withRule(int factor, int right) {
        PlanCertificates x = Checks.withModel(1, 0, 9, 1, 1, factor, right, 0);
        Checks.begin(x);
        Checks.read(x, 0, 0);
        return x;
    }

    /** It is IMPOSSIBLE if all FACTORS are 0 and RIGHT is below 0. */
    private static void rightBelowZero() {
        Checks.due("0 <= -100000", withRule(0, -100000).proved(), 1);
        Checks.due("0 <= -2", withRule(0, -2).proved(), 1);
        Checks.due("0 <= -1", withRule(0, -1).proved(), 1);
        Checks.due("0 <= 0", withRule(0, 0).proved(), 0);
        Checks.due("0 <= 1", withRule(0, 1).proved(), 0);
        Checks.due("x <= -1", withRule(1, -1).proved(), 0);
        Checks.due("-x <= -100000", withRule(-1, -100000).proved(), 0);
    }

    private static void allFactorsZero() {
        for (int v = 0; v < 8; v++) {
            int[] m = new int[36];
            m[0] = 8;
            m[25] = 1;
            m[26 + v] = v % 2 == 0 ? 1 : -1;
            m[34] = -1;
            PlanCertificates x = Checks.withModel(m);
            Checks.begin(x);
            Checks.read(x, 0, 0);
            Checks.due("one FACTOR, of " + v, x.proved(), 0);
        }
    }

    private static void withoutAssumptions() {
        // x is 0 to 9: x <= -1 is against LOW, -x <= -10 against HIGH.
        PlanCertificates x = Checks.withModel(1, 0, 9, 1, 0, 0);
        Checks.begin(x);
        Checks.read(x, 6, 0, -1, 0, 2, 0, 4, 2, 0, 1, 1, 1);
        Checks.dueRow(x, 2, -1, 0);
        Checks.due("under a BRANCH", x.proved(), 0);
        Checks.due("best()", Checks.best(x), Checks.THROWS_STATE);
        // x is 0 to 9, and 2x <= 1, -2x <= -1: under each BRANCH impossible, joined without any.
        x = Checks.withModel(1, 0, 9, 1, 2, 2, 1, -2, -1, 0);
        Checks.begin(x);
        Checks.read(x, 6, 0, 0, 0, 6, 0, 0, 1, 0, 0, 0, 1, 4, 2, 0, 2, 3, 1, 4, 2, 1, 2, 2, 1);
        Checks.dueRow(x, 4, -1, 0);
        Checks.dueRow(x, 5, -1, 0);
        Checks.due("under each BRANCH", x.proved(), 0);
        Checks.read(x, 7, 5, 4, 0, 1);
        Checks.due("joined the wrong way", x.proved(), 0);
        Checks.read(x, 7, 4, 5, 0, 1);
        Checks.due("joined", x.proved(), 1);
    }

    /** Else 2: one without ASSUMPTIONS, with a LIMIT: no GOOD plan costs less. */
    private static void withALimit() {
        PlanCertificates x = Checks.withModel(1, 0, 9, 1, 0, 0);
        Checks.plan(x, 1);
        Checks.plan(x, 0);
        Checks.begin(x);
        // BETTER than 1: x <= 0, and -x <= 0: 0 <= 0. BETTER than 0: x <= -1: 0 <= -1.
        Checks.read(x, 8, 0, 2, 0, 4, 2, 0, 1, 1, 1);
        Checks.dueRow(x, 2, 0, 0);
        Checks.due("RIGHT of 0", x.proved(), 0);
        Checks.read(x, 8, 1);
        Checks.due("BETTER alone", x.proved(), 0);
        Checks.read(x, 4, 2, 3, 1, 1, 1);
        Checks.dueRow(x, 4, -1, 0);
        Checks.due("RIGHT of -1", x.proved(), 2);
        Checks.read(x, 1, 0);
        Checks.due("another row behind it", x.proved(), 2);
    }

    private static void withALimitAndAssumptions() {
        PlanCertificates x = Checks.withModel(1, 0, 9, 1, 0, 0);
        Checks.plan(x, 1);
        Checks.begin(x);
        // BETTER than 1: x <= 0; x >= 1 by a BRANCH: 0 <= -1 under it.
        Checks.read(x, 8, 0, 6, 0, 0, 1, 4, 2, 0, 1, 1, 1);
        Checks.dueRow(x, 2, -1, 0);
        Checks.due("limit", Checks.row(x, 2, 10), 1);
        Checks.due("proved()", x.proved(), 0);
    }

    /** A row that is not whole, or that a FAULT stopped, counts for nothing; behind a FAULT what stands counts. */
    private static void onlyRowsThatStand() {
        PlanCertificates x = Checks.withModel(1, 2, 9, 1, 1, 1, 1, 0);
        Checks.begin(x);
        Checks.read(x, 0, 0, 2, 0, 4, 2, 0, 1, 1);
        Checks.due("all but its last number", x.proved(), 0);
        Checks.read(x, 0);
        Checks.due("stopped by its last number", x.proved(), 0);
        x.begin();
        Checks.read(x, x.digest(), 0, 0, 2, 0, 4, 2, 0, 1, 1, 1);
        Checks.due("whole", x.proved(), 1);
        Checks.read(x, 10);
        Checks.due("behind a FAULT", x.proved(), 1);
        Checks.trim(x, 2);
        Checks.due("behind trim() to it", x.proved(), 1);
        Checks.trim(x, 1);
        Checks.due("behind trim() to another", x.proved(), 0);
        x.begin();
        Checks.due("of the next certificate", x.proved(), 0);
    }

    private static void theFirstAndTheLastRow() {
        Checks.due("row 0", withRule(0, -1).proved(), 1);
        PlanCertificates x = Checks.withModel(1, 0, 9, 1, 1, 0, -1, 0);
        x.begin();
        Fill.rows(x, 199, 1, 0);
        Checks.due("before row 199", x.proved(), 0);
        Checks.read(x, 0, 0);
        Checks.due("by row 199", x.proved(), 1);
        Checks.read(x, 1);
        Checks.due("behind too many", x.proved(), 1);
    }

    /** Rows of a certificate before, or that trim() has left out, count for nothing. */
    private static void nothingOfAnOlderCertificate() {
        PlanCertificates x = Checks.withModel(1, 0, 9, 1, 1, 0, -1, 0);
        Checks.begin(x);
        Checks.read(x, 1, 0, 0, 0, 0, 0);
        Checks.due("by rows 1 and 2", x.proved(), 1);
        Checks.due("trim(0)", Checks.trim(x, 0), 1);
        Checks.due("by row 0 alone", x.proved(), 0);
        Checks.begin(x);
        Checks.due("without rows", x.proved(), 0);
        Checks.read(x, 1, 0);
        Checks.due("by one row", x.proved(), 0);
        Checks.read(x, 2, 0);
        Checks.due("by two rows", x.proved(), 0);
        Checks.read(x, 0);
        Checks.due("in the midst of the third", x.proved(), 0);
    }
}
