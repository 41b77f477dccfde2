/** Promise 7: cost. */
public final class Promise07Cost {
    public static void main(String[] args) {
        sums();
        greatestAndLeast();
        noSuchPlan();
        throwingChangesNothing();
        Checks.finish();
    }

    private static int[] eight(int cost) {
        int[] m = new int[27];
        m[0] = 8;
        for (int v = 0; v < 8; v++) {
            m[3 + 3 * v] = cost;
        }
        return m;
    }

    /** The sum of COSTS times numbers, of plans that are GOOD or not. */
    private static void sums() {
        PlanCertificates x = Checks.withModel(3, 0, 9, 3, 0, 9, 0, 0, 9, -7, 0, 0);
        Checks.plan(x, 2, 5, 4);
        Checks.plan(x, 0, 0, 0);
        Checks.plan(x, 0, 1000000, 0);
        Checks.plan(x, -1, 0, 1);
        Checks.due("cost(0)", Checks.cost(x, 0), 6 - 28);
        Checks.due("cost(1)", Checks.cost(x, 1), 0);
        Checks.due("cost(2)", Checks.cost(x, 2), 0);
        Checks.due("cost(3)", Checks.cost(x, 3), -10);
        for (int v = 0; v < 8; v++) {
            int[] plan = new int[8];
            plan[v] = 1;
            int[] m = eight(0);
            m[3 + 3 * v] = -100;
            x = Checks.withModel(m);
            Checks.plan(x, plan);
            Checks.due("of VARIABLE " + v, Checks.cost(x, 0), -100);
        }
    }

    private static void greatestAndLeast() {
        int most = 1000000;
        int[] costs = {100, -100};
        for (int cost : costs) {
            PlanCertificates x = Checks.withModel(eight(cost));
            Checks.plan(x, most, most, most, most, most, most, most, most);
            Checks.plan(x, -most, -most, -most, -most, -most, -most, -most, -most);
            Checks.due("cost(0)", Checks.cost(x, 0), 8L * cost * most);
            Checks.due("cost(1)", Checks.cost(x, 1), -8L * cost * most);
        }
    }

    private static void noSuchPlan() {
        Checks.due("without a model", Checks.cost(new PlanCertificates(), 0), Checks.THROWS_INDEX);
        PlanCertificates x = Checks.withModel(1, 0, 9, 1, 0, 0);
        Checks.due("without plans", Checks.cost(x, 0), Checks.THROWS_INDEX);
        for (int count = 1; count <= 8; count++) {
            Checks.plan(x, count);
            Checks.due("the last of " + count, Checks.cost(x, count - 1), count);
            Checks.due("behind the last of " + count, Checks.cost(x, count), Checks.THROWS_INDEX);
        }
        int[] wrong = {Integer.MIN_VALUE, -1, 8, 9, Integer.MAX_VALUE};
        for (int plan : wrong) {
            Checks.due("cost(" + plan + ")", Checks.cost(x, plan), Checks.THROWS_INDEX);
        }
        Checks.put(x, 1, 0, 9, 1, 0, 0);
        x.model();
        Checks.due("of another model", Checks.cost(x, 0), Checks.THROWS_INDEX);
    }

    private static void throwingChangesNothing() {
        int[] wrong = {-1, 8};
        for (int plan : wrong) {
            Twins.unchanged("cost(" + plan + ")",
                    x -> Checks.due("cost(" + plan + ")", Checks.cost(x, plan), Checks.THROWS_INDEX));
        }
    }
}
