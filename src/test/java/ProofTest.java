/** Promises 15 (proved), 16 (best) and 17 (least). */
public final class ProofTest {
    public static void main(String[] args) {
        noPlan();
        bestPlan();
        noPlanAheadOfBest();
        byRowZero();
        oldRowsAreForgotten();
        leastCost();
        leastOfManyRows();
        leastWithoutCosts();
        leastNeedsPlainRows();
        Checks.finish();
    }

    private static void noPlan() {
        // 2 <= x and x <= 1.
        PlanCertificates x = Checks.withModel(1, 2, 5, 1, 1, 1, 1, 0);
        Checks.due("proved() without a certificate", x.proved(), 0);
        Checks.begin(x);
        Checks.due("proved() without rows", x.proved(), 0);
        Checks.read(x, 0, 0, 2, 0);
        Checks.due("proved() too early", x.proved(), 0);
        Checks.due("best()", Checks.best(x), Checks.THROWS_STATE);
        Checks.read(x, 4, 2, 0, 1, 1, 1);
        Checks.dueRow(x, 2, -1, 0);
        Checks.due("proved()", x.proved(), 1);
        Checks.due("best()", Checks.best(x), Checks.THROWS_STATE);
        Checks.read(x, 99);
        Checks.due("proved() behind a fault", x.proved(), 1);
        x.begin();
        Checks.due("proved() of another certificate", x.proved(), 0);
        // 0 <= 0 is not impossible.
        x = Checks.withModel(1, 1, 5, 1, 1, 1, 1, 0);
        Checks.begin(x);
        Checks.read(x, 0, 0, 2, 0, 4, 2, 0, 1, 1, 1);
        Checks.dueRow(x, 2, 0, 0);
        Checks.due("proved()", x.proved(), 0);
        // An impossible row with an assumption proves nothing.
        Checks.read(x, 6, 0, 0, 0, 4, 2, 3, 1, 1, 1);
        Checks.dueRow(x, 4, -1, 0);
        Checks.due("proved() under an assumption", x.proved(), 0);
    }

    private static void bestPlan() {
        PlanCertificates x = Checks.withModel(1, -3, 5, 2, 0, 0);
        Checks.plan(x, -3);
        Checks.plan(x, 0);
        Checks.begin(x);
        // 2x <= -7; -2x <= 6: impossible, limit -6. With x = 0: 2x <= -1: not impossible.
        Checks.read(x, 8, 0, 8, 1, 2, 0, 4, 2, 1, 1, 2, 2);
        Checks.dueRow(x, 3, 5, 0);
        Checks.due("proved()", x.proved(), 0);
        Checks.due("best()", Checks.best(x), Checks.THROWS_STATE);
        Checks.read(x, 6, 0, 4, 0, 4, 3, 0, 1, 2, 2, 4, 1);
        Checks.due("proved()", x.proved(), 0);
        Checks.read(x, 4, 2, 0, 1, 2, 2);
        Checks.dueRow(x, 6, -1, 0);
        Checks.due("proved()", x.proved(), 2);
        Checks.due("best()", Checks.best(x), -6);
        Checks.read(x, 4, 4, 0, 1, 2, 2, 1, 1, 2, 2, 4, 1, 6, 9);
        Checks.due("proved()", x.proved(), 2);
        Checks.due("best()", Checks.best(x), -6);
        // A best plan that costs 0.
        x = Checks.withModel(1, 0, 5, 1, 0, 0);
        Checks.plan(x, 0);
        Checks.begin(x);
        Checks.read(x, 8, 0, 2, 0, 4, 2, 0, 1, 1, 1);
        Checks.due("proved()", x.proved(), 2);
        Checks.due("best()", Checks.best(x), 0);
    }

    private static void noPlanAheadOfBest() {
        // A good plan and "no plan at all" never stand together, so a limit that is proved under
        // one assumption and a proof under another are all that can be told apart here.
        PlanCertificates x = Checks.withModel(1, 0, 5, 1, 0, 0);
        Checks.plan(x, 0);
        Checks.begin(x);
        Checks.read(x, 6, 0, -1, 0, 2, 0, 4, 2, 0, 1, 1, 1);
        Checks.dueRow(x, 2, -1, 0);
        Checks.due("proved()", x.proved(), 0);
        Checks.read(x, 8, 0, 4, 2, 3, 1, 2, 1);
        Checks.due("proved()", x.proved(), 0);
        Checks.read(x, 4, 2, 3, 1, 1, 1);
        Checks.due("proved()", x.proved(), 2);
    }

    private static void byRowZero() {
        PlanCertificates x = Checks.withModel(1, 0, 5, 1, 1, 0, -1, 0);
        Checks.begin(x);
        Checks.read(x, 0, 0);
        Checks.due("a rule that says 0 <= -1", x.proved(), 1);
        // Where nothing costs anything, any good plan is the best.
        x = Checks.withModel(1, 0, 5, 0, 0, 0);
        Checks.plan(x, 3);
        Checks.begin(x);
        Checks.read(x, 8, 0);
        Checks.dueRow(x, 0, -1, 0);
        Checks.due("proved()", x.proved(), 2);
        Checks.due("best()", Checks.best(x), 0);
        Checks.due("least()", Checks.least(x), Checks.THROWS_STATE);
    }

    private static void oldRowsAreForgotten() {
        // 2 <= x and x <= 1 again, and -x <= -2 as a bound of the cost.
        PlanCertificates x = Checks.withModel(1, 2, 5, 1, 1, 1, 1, 0);
        Checks.begin(x);
        Checks.read(x, 0, 0, 2, 0, 4, 2, 0, 1, 1, 1);
        Checks.due("proved()", x.proved(), 1);
        Checks.due("least()", Checks.least(x), 2);
        Checks.due("trim(0)", Checks.trim(x, 0), 1);
        Checks.due("proved() behind trim", x.proved(), 0);
        Checks.due("least() behind trim", Checks.least(x), Checks.THROWS_STATE);
        Checks.begin(x);
        Checks.due("proved() behind begin", x.proved(), 0);
        Checks.read(x, 0, 0);
        Checks.due("least() of one row", Checks.least(x), Checks.THROWS_STATE);
        Checks.read(x, 1, 0);
        Checks.due("proved() of two rows", x.proved(), 0);
    }

    private static void leastCost() {
        // Costs 2, -3, 0; x 1 to 9, y 0 to 4, z 0 to 1; rules at will.
        PlanCertificates x = Checks.withModel(3, 1, 9, 2, 0, 4, -3, 0, 1, 0,
                7, -2, 3, 0, 11, -4, 6, 0, -7, 2, -3, 0, 1, -2, 3, 1, 0, -3, 4, 0, 0, -1, 1, 0, 0, 0, 0, 0, -5, 0);
        Checks.due("least() without a certificate", Checks.least(x), Checks.THROWS_STATE);
        Checks.begin(x);
        Checks.due("least() without rows", Checks.least(x), Checks.THROWS_STATE);
        Checks.read(x, 0, 2, 0, 3, 0, 4, 0, 5, 0, 6, 1, 0);
        Checks.due("no row of -m times the costs", Checks.least(x), Checks.THROWS_STATE);
        Checks.read(x, 0, 0);
        Checks.due("m = 1", Checks.least(x), -11);
        Checks.read(x, 0, 1);
        Checks.due("m = 2: 7 / 2 rounded up", Checks.least(x), 4);
        Checks.read(x, 0, 0);
        Checks.due("a smaller bound later", Checks.least(x), 4);
        Checks.read(x, 77);
        Checks.due("behind a fault", Checks.least(x), 4);
        Checks.due("proved() by a rule that is impossible", x.proved(), 1);
        Checks.due("best()", Checks.best(x), Checks.THROWS_STATE);
    }

    private static void leastOfManyRows() {
        // Cost 3; -3x <= 7 alone would be -7; -6x <= 7 is -7/2, rounded up -3.
        PlanCertificates x = Checks.withModel(1, -9, 9, 3, 3, -3, 7, -6, 7, -8, -100, 0);
        Checks.begin(x);
        Checks.read(x, 0, 0);
        Checks.due("least()", Checks.least(x), -7);
        Checks.read(x, 0, 1);
        Checks.due("least()", Checks.least(x), -3);
        Checks.read(x, 0, 2);
        Checks.due("8 is no whole m times 3", Checks.least(x), -3);
        Checks.read(x, 4, 1, 2, 3);
        Checks.dueRow(x, 3, -300, -24);
        Checks.due("m = 8: 300 / 8 rounded up", Checks.least(x), 38);
    }

    private static void leastWithoutCosts() {
        PlanCertificates x = Checks.withModel(2, 0, 9, 0, 0, 9, 0, 1, 0, 0, 5, 0);
        Checks.begin(x);
        Checks.read(x, 0, 0, 1, 0);
        Checks.due("all costs are 0", Checks.least(x), Checks.THROWS_STATE);
        // The first cost is 0, and a factor stands where it is.
        x = Checks.withModel(2, 0, 9, 0, 0, 9, 5, 3, 0, -5, -2, 1, -5, -20, -1, -5, -30, 0);
        Checks.begin(x);
        Checks.read(x, 0, 1, 0, 2);
        Checks.due("another factor", Checks.least(x), Checks.THROWS_STATE);
        Checks.read(x, 0, 0);
        Checks.due("least()", Checks.least(x), 2);
    }

    private static void leastNeedsPlainRows() {
        PlanCertificates x = Checks.withModel(1, 0, 9, -1, 0, 0);
        Checks.plan(x, 2);
        Checks.begin(x);
        Checks.read(x, 6, 0, 4, 0);
        Checks.due("a row with an assumption", Checks.least(x), Checks.THROWS_STATE);
        Checks.read(x, 8, 0, 1, 0, 4, 2, 1, 1, 2, 2);
        Checks.dueRow(x, 3, 15, 1);
        Checks.due("least() by HIGH", Checks.least(x), -9);
        x.begin();
        Checks.read(x, x.digest(), 8, 0, 6, 0, 4, 0, 6, 0, 4, 1, 1, 0, 2, 0);
        Checks.read(x, 4, 3, 0, 1, 3, 2, 4, 1);
        Checks.dueRow(x, 5, 15, -1 + 2 - 1);
        Checks.due("trim", Checks.trim(x, 0), 1);
        Checks.due("a row with a limit alone", Checks.least(x), Checks.THROWS_STATE);
        // With a limit and the right factors: two of x <= 9 and BETTER.
        Checks.read(x, 1, 0, 4, 2, 0, 1, 1, 2);
        Checks.dueRow(x, 2, 15, 1);
        Checks.due("trim", Checks.trim(x, 2), 3);
        Checks.due("least() of row 1 alone", Checks.least(x), -9);
        x.begin();
        Checks.read(x, x.digest(), 8, 0, 6, 0, 3, 0, 4, 2, 0, 1, 1, 2);
        Checks.dueRow(x, 2, 3, 1);
        Checks.due("a limit and an assumption", Checks.least(x), Checks.THROWS_STATE);
    }
}
