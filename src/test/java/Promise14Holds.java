/** Promise 14: holds. */
public final class Promise14Holds {
    public static void main(String[] args) {
        rightAtTheBound();
        assumptionsAtTheBound();
        eachAssumptionCounts();
        limitAtTheBound();
        goodOrNot();
        greatNumbers();
        noSuchRowOrPlan();
        throwingChangesNothing();
        Checks.finish();
    }

    /** One variable of -9 to 9 that costs 2, and plans of these numbers. */
    private static PlanCertificates withPlans(int... numbers) {
        PlanCertificates x = Checks.withModel(1, -9, 9, 2, 2, 3, 6, -3, 6, 0);
        for (int number : numbers) {
            Checks.plan(x, number);
        }
        Checks.begin(x);
        return x;
    }

    private static void dueHolds(PlanCertificates x, int row, int... answers) {
        for (int plan = 0; plan < answers.length; plan++) {
            Checks.due("holds(" + row + ", " + plan + ")", Checks.holds(x, row, plan), answers[plan]);
        }
    }

    /** The sum of FACTORS times numbers is at most RIGHT. */
    private static void rightAtTheBound() {
        PlanCertificates x = withPlans(1, 2, 3, -1, -2, -3);
        Checks.read(x, 0, 0, 0, 1, 4, 2, 0, 1, 1, 1);
        dueHolds(x, 0, 1, 1, 0, 1, 1, 1);
        dueHolds(x, 1, 1, 1, 1, 1, 1, 0);
        dueHolds(x, 2, 1, 1, 1, 1, 1, 1);
        x = Checks.withModel(1, 0, 9, 0, 3, 0, -1, 0, 0, 0, 1, 0);
        Checks.plan(x, 4);
        Checks.begin(x);
        Checks.read(x, 0, 0, 0, 1, 0, 2);
        dueHolds(x, 0, 0);
        dueHolds(x, 1, 1);
        dueHolds(x, 2, 1);
    }

    /** 2: it does not keep its ASSUMPTIONS: x <= 2 or -x <= -3. */
    private static void assumptionsAtTheBound() {
        PlanCertificates x = withPlans(1, 2, 3, 4);
        // 2: under both, which nothing keeps; 3: x <= 9; 4: under x <= 2; 5: under the other one.
        Checks.read(x, 6, 0, 2, 0, 6, 0, 2, 1, 4, 2, 0, 1, 1, 1);
        Checks.read(x, 1, 0, 4, 2, 0, 1, 3, 1, 4, 2, 1, 1, 3, 2);
        dueHolds(x, 0, 1, 1, 2, 2);
        dueHolds(x, 1, 2, 2, 1, 1);
        dueHolds(x, 2, 2, 2, 2, 2);
        dueHolds(x, 3, 1, 1, 1, 1);
        dueHolds(x, 4, 1, 1, 2, 2);
        dueHolds(x, 5, 2, 2, 1, 1);
    }

    private static void eachAssumptionCounts() {
        PlanCertificates x = Checks.withModel(2, 0, 9, 0, 0, 9, 0, 0, 0);
        int[][] plans = {{4, 4}, {5, 4}, {4, 5}, {5, 5}};
        for (int[] plan : plans) {
            Checks.plan(x, plan);
        }
        Checks.begin(x);
        Checks.read(x, 6, 0, 4, 0, 6, 1, 4, 0, 1, 0, 4, 3, 2, 1, 1, 1, 0, 1, 4, 2, 2, 1, 1, 1);
        dueHolds(x, 3, 1, 2, 2, 2);
        dueHolds(x, 4, 1, 1, 2, 2);
        // The 60th BRANCH counts like the first.
        x = Fill.begun();
        Fill.branches(x, 59);
        Checks.read(x, 6, 1, 4, 0, 4, 2, 59, 1, 0, 1);
        Checks.plan(x, 0, 4);
        Checks.plan(x, 0, 5);
        Checks.plan(x, 1, 4);
        Checks.due("both kept", Checks.holds(x, 60, 2), 1);
        Checks.due("the 60th not", Checks.holds(x, 60, 3), 2);
        Checks.due("the first not", Checks.holds(x, 60, 4), 2);
    }

    /** 2: or does not cost less than its LIMIT. */
    private static void limitAtTheBound() {
        PlanCertificates x = withPlans(0, 1, -1, 2, -2);
        // BETTER than 0 (limit 0), with x <= 9 twice: 4x <= 17 then, limit 0.
        Checks.read(x, 8, 0, 1, 0, 4, 2, 0, 1, 1, 2, 8, 1, 8, 2, 0, 1, 4, 2, 3, 1, 5, 1);
        dueHolds(x, 0, 2, 2, 1, 2, 1);
        dueHolds(x, 1, 1, 1, 1, 1, 1);
        dueHolds(x, 2, 2, 2, 1, 2, 1);
        dueHolds(x, 3, 1, 2, 1, 2, 1);
        dueHolds(x, 4, 2, 2, 2, 2, 1);
        // 6: BETTER than 1 and -3x <= 6: -x <= 7, limit 2.
        Checks.dueRow(x, 6, 7, -1);
        Checks.plan(x, -7);
        Checks.plan(x, -8);
        dueHolds(x, 6, 1, 2, 1, 2, 1, 1, 0);
    }

    /** A PLAN (GOOD or not). */
    private static void goodOrNot() {
        PlanCertificates x = withPlans(2, 3, 10, -10, 1000000);
        Checks.due("breaks(0)", x.breaks(0), -1);
        Checks.due("breaks(1)", x.breaks(1), 100);
        Checks.due("breaks(2)", x.breaks(2), 0);
        Checks.read(x, 1, 0, 2, 0, 0, 0);
        dueHolds(x, 0, 1, 1, 0, 1, 0);
        dueHolds(x, 1, 1, 1, 1, 0, 1);
        dueHolds(x, 2, 1, 0, 0, 1, 0);
    }

    /** FACTORS of 10^12 and numbers of a million, eight of each: the sum does not go round. */
    private static void greatNumbers() {
        int[] m = new int[27 + 18];
        m[0] = 8;
        m[25] = 2;
        for (int v = 0; v < 8; v++) {
            m[26 + v] = 1;
            m[35 + v] = -1;
        }
        PlanCertificates x = Checks.withModel(m);
        int most = 1000000;
        Checks.plan(x, most, most, most, most, most, most, most, most);
        Checks.plan(x, -most, -most, -most, -most, -most, -most, -most, -most);
        Checks.plan(x, most, -most, most, -most, most, -most, most, -most);
        Checks.plan(x, most, -most, most, -most, most, -most, most, 1 - most);
        Checks.begin(x);
        Checks.read(x, 0, 0, 4, 1, 0, 1000, 4, 1, 1, 1000, 4, 1, 2, 1000, 4, 1, 3, 1000);
        Checks.read(x, 0, 1, 4, 1, 5, 1000, 4, 1, 6, 1000, 4, 1, 7, 1000, 4, 1, 8, 1000);
        Checks.dueRow(x, 4, 0, 1000000000000L);
        dueHolds(x, 4, 0, 1, 1, 0);
        dueHolds(x, 9, 1, 0, 1, 1);
    }

    private static void noSuchRowOrPlan() {
        PlanCertificates x = withPlans(1, 2);
        Checks.due("without rows", Checks.holds(x, 0, 0), Checks.THROWS_INDEX);
        Checks.read(x, 1, 0, 1);
        int[] rows = {Integer.MIN_VALUE, -1, 1, 200, Integer.MAX_VALUE};
        int[] plans = {Integer.MIN_VALUE, -1, 2, 8, Integer.MAX_VALUE};
        for (int row : rows) {
            Checks.due("holds(" + row + ", 1)", Checks.holds(x, row, 1), Checks.THROWS_INDEX);
            for (int plan : plans) {
                Checks.due("holds(" + row + ", " + plan + ")", Checks.holds(x, row, plan), Checks.THROWS_INDEX);
            }
        }
        for (int plan : plans) {
            Checks.due("holds(0, " + plan + ")", Checks.holds(x, 0, plan), Checks.THROWS_INDEX);
        }
        dueHolds(x, 0, 1, 1);
        x = withPlans(0, 1, 2, 3, 4, 5, 6, 7);
        x.begin();
        Fill.rows(x, 200, 1, 0);
        Checks.due("holds(199, 7)", Checks.holds(x, 199, 7), 1);
        Checks.due("holds(200, 7)", Checks.holds(x, 200, 7), Checks.THROWS_INDEX);
        Checks.due("holds(199, 8)", Checks.holds(x, 199, 8), Checks.THROWS_INDEX);
        Checks.due("without plans", Checks.holds(rowWithoutPlans(), 0, 0), Checks.THROWS_INDEX);
    }

    private static PlanCertificates rowWithoutPlans() {
        PlanCertificates x = withPlans();
        Checks.read(x, 1, 0);
        return x;
    }

    private static void throwingChangesNothing() {
        int[][] wrong = {{-1, 0}, {0, -1}, {200, 0}, {0, 8}};
        for (int[] call : wrong) {
            Twins.unchanged("holds(" + call[0] + ", " + call[1] + ")",
                    x -> Checks.due("holds()", Checks.holds(x, call[0], call[1]), Checks.THROWS_INDEX));
        }
    }
}
