/** Promise 16: best. */
public final class Promise16Best {
    public static void main(String[] args) {
        provedIsZero();
        provedIsOne();
        limits();
        atTheLastRow();
        ofManyRows();
        throwingChangesNothing();
        Checks.finish();
    }

    /** IllegalStateException: it is not. */
    private static void provedIsZero() {
        Checks.due("of a new object", Checks.best(new PlanCertificates()), Checks.THROWS_STATE);
        PlanCertificates x = Checks.withModel(1, 0, 9, 1, 0, 0);
        Checks.due("without a certificate", Checks.best(x), Checks.THROWS_STATE);
        Checks.plan(x, 0);
        Checks.begin(x);
        Checks.due("without rows", Checks.best(x), Checks.THROWS_STATE);
        Checks.read(x, 8, 0, 2, 0);
        Checks.due("BETTER alone", Checks.best(x), Checks.THROWS_STATE);
        Checks.read(x, 4, 2, 0, 1, 1);
        Checks.due("all but the last number", Checks.best(x), Checks.THROWS_STATE);
        Checks.read(x, 1);
        Checks.due("proved() is 2", Checks.best(x), 0);
        Checks.read(x, 10);
        Checks.due("behind a FAULT", Checks.best(x), 0);
        Checks.trim(x, 1);
        Checks.due("behind trim() to another row", Checks.best(x), Checks.THROWS_STATE);
    }

    private static void provedIsOne() {
        PlanCertificates x = Checks.withModel(1, 0, 9, 1, 1, 0, -1, 0);
        Checks.begin(x);
        Checks.read(x, 0, 0);
        Checks.due("proved()", x.proved(), 1);
        Checks.due("best()", Checks.best(x), Checks.THROWS_STATE);
    }

    /** The LIMIT is the COST of the plan: 0, below 0, and as far as COSTS and bounds go. */
    private static void limits() {
        int[] numbers = {-1000, -1, 0, 1, 1000};
        int[] costs = {100, 1};
        for (int number : numbers) {
            for (int cost : costs) {
                PlanCertificates x = Checks.withModel(1, number, 1000, cost, 0, 0);
                Checks.plan(x, number);
                Checks.begin(x);
                Checks.read(x, 8, 0, 2, 0, 4, 2, 0, 1, 1, cost);
                Checks.dueRow(x, 2, -1, 0);
                Checks.due("best()", Checks.best(x), (long) number * cost);
            }
        }
        // Where nothing costs anything, BETTER itself is IMPOSSIBLE.
        PlanCertificates x = Checks.withModel(1, 0, 9, 0, 0, 0);
        Checks.plan(x, 5);
        Checks.begin(x);
        Checks.read(x, 8, 0);
        Checks.due("best() by row 0", Checks.best(x), 0);
    }

    private static void atTheLastRow() {
        PlanCertificates x = Checks.withModel(1, 3, 9, 1, 0, 0);
        Checks.plan(x, 3);
        x.begin();
        Fill.rows(x, 198, 2, 0);
        Checks.read(x, 8, 0);
        Checks.due("before row 199", Checks.best(x), Checks.THROWS_STATE);
        Checks.read(x, 4, 2, 198, 1, 0, 1);
        Checks.due("by row 199", Checks.best(x), 3);
    }

    /** The least ROW by which proved() is 2; rows under ASSUMPTIONS do not count, with whatever LIMIT. */
    private static void ofManyRows() {
        PlanCertificates x = Checks.withModel(1, 0, 9, 1, 0, 0);
        Checks.plan(x, 5);
        Checks.plan(x, 0);
        Checks.begin(x);
        // 3: 0 <= -1 under BRANCH 2, limit 5.
        Checks.read(x, 8, 0, 2, 0, 6, 0, 4, 1, 4, 2, 0, 1, 2, 1);
        Checks.dueRow(x, 3, -1, 0);
        Checks.due("limit", Checks.row(x, 3, 11), 5);
        Checks.due("under a BRANCH alone", Checks.best(x), Checks.THROWS_STATE);
        Checks.read(x, 8, 1, 4, 2, 4, 1, 1, 1, 4, 1, 5, 9);
        Checks.due("proved()", x.proved(), 2);
        Checks.due("best()", Checks.best(x), 0);
    }

    private static void throwingChangesNothing() {
        for (int state = 0; state < Twins.PROVED; state++) {
            Twins.unchangedIn(state, "best()",
                    x -> Checks.due("best()", Checks.best(x), Checks.THROWS_STATE), x -> { });
        }
    }
}
