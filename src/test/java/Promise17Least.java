/** Promise 17: least. */
public final class Promise17Least {
    public static void main(String[] args) {
        thereIsNone();
        mOfOneOrMore();
        allFactorsFollowTheCosts();
        costsAllZero();
        roundedUp();
        theGreatestOfAll();
        withoutAssumptionsAndLimit();
        greatNumbers();
        throwingChangesNothing();
        Checks.finish();
    }

    /** IllegalStateException: there is none. */
    private static void thereIsNone() {
        Checks.due("of a new object", Checks.least(new PlanCertificates()), Checks.THROWS_STATE);
        PlanCertificates x = Checks.withModel(1, 3, 9, 1, 0, 0);
        Checks.due("without a certificate", Checks.least(x), Checks.THROWS_STATE);
        Checks.begin(x);
        Checks.due("without rows", Checks.least(x), Checks.THROWS_STATE);
        Checks.read(x, 1, 0);
        Checks.due("x <= 9", Checks.least(x), Checks.THROWS_STATE);
        Checks.read(x, 2);
        Checks.due("all but the last number", Checks.least(x), Checks.THROWS_STATE);
        Checks.read(x, 0);
        Checks.due("-x <= -3", Checks.least(x), 3);
        Checks.read(x, 10);
        Checks.due("behind a FAULT", Checks.least(x), 3);
        Checks.trim(x, 0);
        Checks.due("behind trim() to another row", Checks.least(x), Checks.THROWS_STATE);
    }

    /** One variable that costs this; the rule is row 0. */
    private static long least(int cost, int factor, int right) {
        PlanCertificates x = Checks.withModel(1, -9, 9, cost, 1, factor, right, 0);
        Checks.begin(x);
        Checks.read(x, 0, 0);
        return Checks.least(x);
    }

    /** FACTORS are -m times COSTS for one m of 1 or more. */
    private static void mOfOneOrMore() {
        int[] costs = {7, -7};
        for (int cost : costs) {
            Checks.due("m = 1", least(cost, -cost, -5), 5);
            Checks.due("m = 2", least(cost, -2 * cost, -6), 3);
            Checks.due("m = 14", least(cost, -14 * cost, -28), 2);
            Checks.due("m = 0", least(cost, 0, -5), Checks.THROWS_STATE);
            Checks.due("m = -1", least(cost, cost, -5), Checks.THROWS_STATE);
            Checks.due("m = -2", least(cost, 2 * cost, -5), Checks.THROWS_STATE);
        }
        Checks.due("between 0 and 1", least(7, -6, -5), Checks.THROWS_STATE);
        Checks.due("between 1 and 2", least(7, -8, -5), Checks.THROWS_STATE);
        Checks.due("below 2", least(7, -13, -5), Checks.THROWS_STATE);
        Checks.due("m = 100", least(1, -100, -100), 1);
        Checks.due("m = 1 of a cost of 100", least(100, -100, -100), 100);
        Checks.due("m = 1 of a cost of -100", least(-100, 100, 100), -100);
    }

    private static void allFactorsFollowTheCosts() {
        int[] costs = {0, 3, 0, -2, 5, 1, -1, 0};
        for (int v = 0; v < 8; v++) {
            for (int change = -1; change <= 1; change++) {
                int[] m = new int[36];
                m[0] = 8;
                m[25] = 1;
                for (int w = 0; w < 8; w++) {
                    m[3 + 3 * w] = costs[w];
                    m[26 + w] = -2 * costs[w];
                }
                m[26 + v] += change;
                m[34] = -9;
                PlanCertificates x = Checks.withModel(m);
                Checks.begin(x);
                Checks.read(x, 0, 0);
                Checks.due(change + " of " + v, Checks.least(x), change == 0 ? 5 : Checks.THROWS_STATE);
            }
        }
    }

    /** COSTS not all 0. */
    private static void costsAllZero() {
        Checks.due("0 <= -1", least(0, 0, -1), Checks.THROWS_STATE);
        Checks.due("0 <= 0", least(0, 0, 0), Checks.THROWS_STATE);
        Checks.due("x <= 0", least(0, 1, 0), Checks.THROWS_STATE);
        PlanCertificates x = Checks.withModel(8, 0, 0, 0, 0, 0, 0, 0, 0, 0, 0, 0, 0, 0, 0, 0, 0, 0, 0, 0, 0, 0, 2, 5, -1, 0, 0);
        Checks.begin(x);
        Checks.read(x, 1, 6, 2, 7);
        Checks.due("the last one's COST alone, another row", Checks.least(x), Checks.THROWS_STATE);
        Checks.read(x, 1, 7);
        Checks.due("the last one's COST alone", Checks.least(x), -5);
    }

    /** Less its RIGHT, divided by m, rounded up. */
    private static void roundedUp() {
        int[] rights = {-7, -6, -5, -4, -3, -2, -1, 0, 1, 2, 3, 4, 5, 6, 7};
        int[] due = {3, 2, 2, 2, 1, 1, 1, 0, 0, 0, -1, -1, -1, -2, -2};
        for (int i = 0; i < rights.length; i++) {
            Checks.due("less " + rights[i] + " / 3", least(2, -6, rights[i]), due[i]);
            Checks.due("less " + rights[i] + " / 3", least(-2, 6, rights[i]), due[i]);
            Checks.due("less " + rights[i] + " / 1", least(2, -2, rights[i]), -rights[i]);
        }
        Checks.due("100000", least(1, -1, -100000), 100000);
        Checks.due("-100000", least(1, -1, 100000), -100000);
    }

    private static void theGreatestOfAll() {
        // 5, 7, 6 in this order; and below 0: -6, -5, -7.
        PlanCertificates x = Checks.withModel(1, 0, 9, 1, 6, -1, -5, -2, -13, -1, -6, -1, 6, -2, 11, -1, 7, 0);
        Checks.begin(x);
        int[] due = {-6, -5, -5};
        for (int i = 0; i < 3; i++) {
            Checks.read(x, 0, 3 + i);
            Checks.due("below 0", Checks.least(x), due[i]);
        }
        int[] then = {5, 7, 7};
        for (int i = 0; i < 3; i++) {
            Checks.read(x, 0, i);
            Checks.due("above 0", Checks.least(x), then[i]);
        }
        // The last row counts, too.
        x.begin();
        Fill.rows(x, 199, 0, 2);
        Checks.due("before row 199", Checks.least(x), 6);
        Checks.read(x, 0, 1);
        Checks.due("by row 199", Checks.least(x), 7);
    }

    /** Of each ROW without ASSUMPTIONS and LIMIT. */
    private static void withoutAssumptionsAndLimit() {
        // The cost is -x, so what x is at most bounds it.
        PlanCertificates x = Checks.withModel(2, 0, 9, -1, 0, 0, 0, 1, 2, 0, 99, 0);
        Checks.plan(x, 3, 0);
        Checks.begin(x);
        Checks.read(x, 6, 0, 4, 0);
        Checks.due("under a BRANCH", Checks.least(x), Checks.THROWS_STATE);
        // BETTER: -x <= -4 with 2x <= 99 is x <= 95, limit -3.
        Checks.read(x, 8, 0, 0, 0, 4, 2, 1, 1, 2, 1);
        Checks.dueRow(x, 3, 95, 1, 0);
        Checks.trim(x, 3);
        Checks.due("by 2x <= 99 alone", Checks.least(x), -49);
        Checks.read(x, 1, 0);
        Checks.due("x <= 9", Checks.least(x), -9);
        Checks.due("the one with a LIMIT would be", Checks.row(x, 2, 8), 95);
        // A better one with a LIMIT, or under a BRANCH, does not count.
        x = Checks.withModel(1, 0, 9, -1, 0, 0);
        Checks.plan(x, 9);
        Checks.begin(x);
        Checks.read(x, 1, 0, 8, 0, 4, 2, 0, 2, 1, 1);
        // 2x <= 18, -x <= -10: x <= 8, limit -9.
        Checks.dueRow(x, 2, 8, 1);
        Checks.due("limit", Checks.row(x, 2, 10), 1);
        Checks.due("by x <= 9 alone", Checks.least(x), -9);
        Checks.read(x, 6, 0, 2, 0);
        Checks.due("nor one under a BRANCH", Checks.least(x), -9);
        Checks.read(x, 6, 0, 2, 1, 7, 3, 3, 3, 4);
        Checks.due("nor one that a JOIN leaves under it", Checks.least(x), -9);
    }

    /** FACTORS and RIGHT of 10^12. */
    private static void greatNumbers() {
        PlanCertificates x = Checks.withModel(1, -1000, 1000, 1, 0, 0);
        Checks.begin(x);
        Checks.read(x, 2, 0, 4, 1, 0, 1000, 4, 1, 1, 1000, 4, 1, 2, 1000);
        Checks.dueRow(x, 3, 1000000000000L, -1000000000L);
        Checks.due("m = 10^9", Checks.least(x), -1000);
        x = Checks.withModel(1, 0, 0, -1, 2, 0, -1, 0, 1, 0);
        Checks.begin(x);
        // 4: 10^12 x <= 0, 9: 0 <= -10^12, 10: both.
        Checks.read(x, 1, 0, 4, 1, 0, 1000, 4, 1, 1, 1000, 4, 1, 2, 1000, 4, 1, 3, 1000);
        Checks.read(x, 0, 0, 4, 1, 5, 1000, 4, 1, 6, 1000, 4, 1, 7, 1000, 4, 1, 8, 1000);
        Checks.due("m = 10^12 and a RIGHT of 0", Checks.least(x), 0);
        Checks.read(x, 4, 2, 4, 1, 9, 1);
        Checks.dueRow(x, 10, -1000000000000L, 1000000000000L);
        Checks.due("m = 10^12 and a RIGHT of -10^12", Checks.least(x), 1);
        x = Checks.withModel(1, 0, 0, -1, 2, 0, -1, 0, 1, 0);
        Checks.begin(x);
        Checks.read(x, 1, 0, 0, 0, 4, 1, 1, 1000, 4, 1, 2, 1000, 4, 1, 3, 1000, 4, 2, 4, 1000, 0, 1);
        Checks.due("fault(0)", x.fault(0), 0);
        Checks.dueRow(x, 5, -1000000000000L, 1);
        Checks.due("10^12 by m = 1", Checks.least(x), 1000000000000L);
        Checks.read(x, 0, 1, 4, 1, 6, 1000, 4, 1, 7, 1000, 4, 1, 8, 1000, 4, 2, 9, 1000, 0, 1);
        Checks.dueRow(x, 10, 1000000000000L, 1);
        Checks.trim(x, 10);
        Checks.due("x <= 0 is left", Checks.least(x), 0);
        x = Checks.withModel(1, 0, 0, -1, 1, 1, 100000, 0);
        Checks.begin(x);
        Checks.read(x, 0, 0);
        Checks.due("far below 0", Checks.least(x), -100000);
        // 4: 0 <= 10^12, 5: -x <= 0, 6: -y <= 0, none of which bounds x + y; 7: -x - y <= 10^12.
        x = Checks.withModel(2, 0, 0, 1, 0, 0, 1, 1, 0, 0, 1, 0);
        Checks.begin(x);
        Checks.read(x, 0, 0, 4, 1, 0, 1000, 4, 1, 1, 1000, 4, 1, 2, 1000, 4, 1, 3, 1000, 2, 0, 2, 1);
        Checks.due("none before the last row", Checks.least(x), Checks.THROWS_STATE);
        Checks.read(x, 4, 3, 4, 1, 5, 1, 6, 1);
        Checks.dueRow(x, 7, 1000000000000L, -1, -1);
        Checks.due("farthest below 0", Checks.least(x), -1000000000000L);
    }

    private static void throwingChangesNothing() {
        for (int state = 0; state < Twins.PROVED; state++) {
            Twins.unchangedIn(state, "least()",
                    x -> Checks.due("least()", Checks.least(x), Checks.THROWS_STATE), x -> { });
        }
    }
}
