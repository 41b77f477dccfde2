/** Promises 12 (row), 13 (assumes) and 14 (holds): what each kind of row says. */
public final class RowTest {
    public static void main(String[] args) {
        plainKinds();
        tables();
        sums();
        divisions();
        branches();
        joins();
        joinsWithImpossible();
        better();
        pushes();
        limits();
        needs();
        outside();
        holding();
        greatHolding();
        Checks.finish();
    }

    /** x is -3 to 7, y 2 to 2, z -9 to -1; costs 1, 0, -5; rules 3x - y <= 8 and z <= -100000. */
    private static PlanCertificates three() {
        PlanCertificates x = Checks.withModel(3, -3, 7, 1, 2, 2, 0, -9, -1, -5,
                2, 3, -1, 0, 8, 0, 0, 1, -100000, 0);
        Checks.begin(x);
        return x;
    }

    private static void duePlain(PlanCertificates x, int row, int kind) {
        Checks.due("row(" + row + ", 9)", Checks.row(x, row, 9), 0);
        Checks.due("row(" + row + ", 10)", Checks.row(x, row, 10), 0);
        Checks.due("row(" + row + ", 11)", Checks.row(x, row, 11), 0);
        Checks.due("row(" + row + ", 12)", Checks.row(x, row, 12), kind);
        Checks.due("row(" + row + ", 13)", Checks.row(x, row, 13), 1);
        Checks.due("assumes(" + row + ", 0)", Checks.assumes(x, row, 0), -1);
    }

    private static void plainKinds() {
        PlanCertificates x = three();
        Checks.read(x, 0, 0, 0, 1, 1, 0, 1, 2, 2, 0, 2, 1, 2, 2);
        Checks.dueRow(x, 0, 8, 3, -1, 0);
        Checks.dueRow(x, 1, -100000, 0, 0, 1);
        Checks.dueRow(x, 2, 7, 1, 0, 0);
        Checks.dueRow(x, 3, -1, 0, 0, 1);
        Checks.dueRow(x, 4, 3, -1, 0, 0);
        Checks.dueRow(x, 5, -2, 0, -1, 0);
        Checks.dueRow(x, 6, 9, 0, 0, -1);
        int[] kinds = {0, 0, 1, 1, 2, 2, 2};
        for (int r = 0; r < kinds.length; r++) {
            duePlain(x, r, kinds[r]);
        }
    }

    private static void tables() {
        PlanCertificates x = Checks.withModel(3, 0, 9, 1, 0, 9, 1, 0, 9, 1, 0,
                2, 2, 0, 3, 1, 5, -4, 1000, 7, -2, 1, 2, 1, -1000, -1000);
        Checks.begin(x);
        Checks.read(x, 3, 0, 1, 1, 3, 0, -2, 3, 3, 0, 0, 4, 3, 0, 5, 0, 3, 0, 0, 0,
                3, 1, 100, 100, 3, 1, -100, -100, 3, 0, 0, -3, 3, 0, -7, 0);
        Checks.dueRow(x, 0, 996, 1, 0, 1);
        Checks.dueRow(x, 1, 3008, 3, 0, -2);
        Checks.dueRow(x, 2, 4000, 4, 0, 0);
        Checks.dueRow(x, 3, 35, 0, 0, 5);
        Checks.dueRow(x, 4, 0, 0, 0, 0);
        Checks.dueRow(x, 5, -200000, 0, 100, 100);
        Checks.dueRow(x, 6, 200000, 0, -100, -100);
        Checks.dueRow(x, 7, 6, -3, 0, 0);
        Checks.dueRow(x, 8, 28, 0, 0, -7);
        for (int r = 0; r < 9; r++) {
            duePlain(x, r, 3);
        }
    }

    private static void sums() {
        PlanCertificates x = three();
        Checks.read(x, 0, 0, 2, 1, 2, 2);
        Checks.due("sums", Checks.read(x, 4, 1, 0, 7, 4, 2, 0, 1, 1, 1000, 4, 4, 2, 1, 2, 2, 2, 3, 0, 10), 6);
        Checks.dueRow(x, 3, 56, 21, -7, 0);
        Checks.dueRow(x, 4, 8 - 2000, 3, -1001, 0);
        Checks.dueRow(x, 5, 54 + 80, 30, -10, -6);
        Checks.due("kind", Checks.row(x, 5, 12), 4);
        Checks.due("needs", Checks.row(x, 3, 13), 2);
        Checks.due("needs", Checks.row(x, 4, 13), 3);
        Checks.due("needs, each once", Checks.row(x, 5, 13), 3);
    }

    private static void divisions() {
        PlanCertificates x = Checks.withModel(2, 0, 9, 1, 0, 9, 1, 4, 6, -4, 7, -6, 4, -7, 0, 0, -1, 0, 3, 9, 0);
        Checks.begin(x);
        Checks.read(x, 0, 0, 0, 1, 0, 2, 0, 3);
        Checks.due("divisions", Checks.read(x, 5, 0, 2, 5, 1, 2, 5, 2, 1000, 5, 3, 3), 8);
        Checks.dueRow(x, 4, 3, 3, -2);
        Checks.dueRow(x, 5, -4, -3, 2);
        Checks.dueRow(x, 6, -1, 0, 0);
        Checks.dueRow(x, 7, 3, 0, 1);
        Checks.due("kind", Checks.row(x, 7, 12), 5);
        Checks.due("needs", Checks.row(x, 7, 13), 2);
    }

    private static void branches() {
        PlanCertificates x = three();
        Checks.read(x, 1, 0, 6, 0, 4, 0, 6, 0, 4, 1, 6, 2, -1000, 0, 6, 2, -1000, 1, 6, 1, 1000, 1, 6, 0, 4, 0);
        Checks.dueRow(x, 1, 4, 1, 0, 0);
        Checks.dueRow(x, 2, -5, -1, 0, 0);
        Checks.dueRow(x, 3, -1000, 0, 0, 1);
        Checks.dueRow(x, 4, 999, 0, 0, -1);
        Checks.dueRow(x, 5, -1001, 0, -1, 0);
        for (int r = 1; r <= 6; r++) {
            Checks.due("kind", Checks.row(x, r, 12), 6);
            Checks.due("needs", Checks.row(x, r, 13), 1);
            Checks.dueAssumptions(x, r, r);
        }
        Checks.read(x, 4, 4, 5, 1, 6, 1, 1, 1, 5, 1, 4, 2, 7, 1, 2, 1, 9, 8, 0);
        Checks.dueAssumptions(x, 7, 1, 5, 6);
        Checks.dueAssumptions(x, 8, 1, 2, 5, 6);
        Checks.due("assumes(8, -1)", Checks.assumes(x, 8, -1), -1);
        Checks.due("assumes(8, 4)", Checks.assumes(x, 8, 4), -1);
        Checks.due("assumes of the least", Checks.assumes(x, 8, Integer.MIN_VALUE), -1);
        Checks.due("assumes of the greatest", Checks.assumes(x, 8, Integer.MAX_VALUE), -1);
    }

    private static void joins() {
        PlanCertificates x = three();
        // 0, 1: x <= 4 or not; 2, 3: z <= -5 or not; 4: 2x - z <= 3 + 9 under 0; 5: x <= 7.
        Checks.read(x, 6, 0, 4, 0, 6, 0, 4, 1, 6, 2, -5, 0, 6, 2, -5, 1, 2, 2, 1, 0);
        Checks.read(x, 4, 2, 0, 2, 4, 1);
        Checks.dueRow(x, 6, 17, 2, 0, -1);
        Checks.read(x, 4, 3, 5, 2, 4, 1, 2, 1, 4, 4, 5, 2, 4, 1, 1, 1, 0, 1);
        // 8: (2x - z) + (-x <= -5) + (x <= 4): 14 + 9 - 5 + 4 under 0 and 1.
        Checks.dueRow(x, 8, 22, 2, 0, -1);
        Checks.due("join", Checks.read(x, 7, 6, 8, 0, 1), 10);
        Checks.dueRow(x, 9, 22, 2, 0, -1);
        Checks.dueAssumptions(x, 9, 0);
        Checks.due("kind", Checks.row(x, 9, 12), 7);
        Checks.due("needs", Checks.row(x, 9, 13), 7);
        Checks.due("join the other way", Checks.read(x, 7, 8, 6, 0, 1), 11);
        Checks.dueRow(x, 10, 22, 2, 0, -1);
        Checks.dueAssumptions(x, 10, 0, 1);
        Checks.due("join by others", Checks.read(x, 7, 8, 6, 2, 3), 12);
        Checks.dueAssumptions(x, 11, 0, 1);
        Checks.due("needs the branches too", Checks.row(x, 11, 13), 9);
        Checks.due("a row with itself", Checks.read(x, 7, 5, 5, 0, 1), 13);
        Checks.dueRow(x, 12, 7, 1, 0, 0);
        Checks.dueAssumptions(x, 12);
        Checks.due("needs", Checks.row(x, 12, 13), 4);
    }

    private static void joinsWithImpossible() {
        // 2x <= 1, -2x <= -1 with x 0 to 1: no plan.
        PlanCertificates x = Checks.withModel(1, 0, 1, 0, 2, 2, 1, -2, -1, 0);
        Checks.begin(x);
        Checks.read(x, 6, 0, 0, 0, 6, 0, 0, 1, 0, 1, 0, 0);
        Checks.read(x, 4, 2, 2, 1, 0, 2, 4, 2, 3, 1, 1, 2);
        Checks.dueRow(x, 4, -1, 0);
        Checks.dueRow(x, 5, -1, 0);
        // a is impossible, b is not: what b says.
        Checks.due("a impossible", Checks.read(x, 7, 4, 3, 0, 1), 7);
        Checks.dueRow(x, 6, 1, 2);
        Checks.dueAssumptions(x, 6);
        Checks.due("b impossible", Checks.read(x, 7, 2, 5, 0, 1), 8);
        Checks.dueRow(x, 7, -1, -2);
        Checks.dueAssumptions(x, 7);
        Checks.due("a impossible, b assumes d", Checks.read(x, 7, 4, 1, 0, 1), 9);
        Checks.dueRow(x, 8, -1, -1);
        Checks.dueAssumptions(x, 8);
        Checks.due("b impossible, a assumes c", Checks.read(x, 7, 0, 5, 0, 1), 10);
        Checks.dueRow(x, 9, 0, 1);
        Checks.dueAssumptions(x, 9);
        Checks.due("twice the sum", Checks.read(x, 4, 1, 5, 3), 11);
        Checks.due("both impossible: the greater RIGHT", Checks.read(x, 7, 4, 10, 0, 1, 7, 10, 4, 0, 1), 13);
        Checks.dueRow(x, 11, -1, 0);
        Checks.dueAssumptions(x, 11);
        Checks.dueRow(x, 12, -1, 0);
        Checks.dueAssumptions(x, 12, 0, 1);
        Checks.due("no plan", x.proved(), 1);
        // Factors 0 and a RIGHT of 0 is not impossible, but has the same factors.
        Checks.due("0 <= 0", Checks.read(x, 1, 0, 2, 0, 4, 2, 13, 1, 14, 1), 16);
        Checks.dueRow(x, 15, 1, 0);
        Checks.due("join", Checks.read(x, 7, 4, 15, 0, 1), 17);
        Checks.dueRow(x, 16, 1, 0);
        Checks.due("0 <= 1 is not impossible", Checks.read(x, 7, 15, 3, 0, 1), -17);
    }

    private static void better() {
        PlanCertificates x = three();
        Checks.due("no good plan", Checks.plan(x, 0, 2, -9), 0);
        Checks.due("it breaks", x.breaks(0), 101);
        Checks.due("read()", Checks.read(x, 8, 0), -14);
        x = Checks.withModel(3, -3, 7, 1, 2, 2, 0, -9, -1, -5, 0, 0);
        Checks.plan(x, 5, 2, -9);
        Checks.plan(x, 0, 2, -1);
        Checks.begin(x);
        Checks.read(x, 8, 0, 8, 1);
        Checks.dueRow(x, 0, 49, 1, 0, -5);
        Checks.due("limited", Checks.row(x, 0, 10), 1);
        Checks.due("limit", Checks.row(x, 0, 11), 50);
        Checks.due("kind", Checks.row(x, 0, 12), 8);
        Checks.due("needs", Checks.row(x, 0, 13), 1);
        Checks.due("assumptions", Checks.row(x, 0, 9), 0);
        Checks.dueRow(x, 1, 4, 1, 0, -5);
        Checks.due("limit", Checks.row(x, 1, 11), 5);
    }

    private static void limits() {
        PlanCertificates x = Checks.withModel(2, -9, 9, 1, -9, 9, 2, 0, 0);
        Checks.plan(x, 3, 1);
        Checks.plan(x, -4, -1);
        Checks.plan(x, 0, 0);
        Checks.begin(x);
        // 0 limit 5, 1 limit -6, 2 limit 0, 3 none, 4 and 5 branches.
        Checks.read(x, 8, 0, 8, 1, 8, 2, 1, 0, 6, 0, 0, 0, 6, 0, 0, 1);
        Checks.read(x, 4, 2, 0, 1, 3, 1, 4, 3, 0, 1, 1, 1, 2, 1, 4, 3, 3, 1, 2, 1, 0, 1, 5, 6, 3, 9, 8, 1);
        long[] due = {5, -6, 0};
        for (int r = 6; r <= 8; r++) {
            Checks.due("limited", Checks.row(x, r, 10), 1);
            Checks.due("limit", Checks.row(x, r, 11), due[r - 6]);
        }
        Checks.due("fault of the division", x.fault(0), 5);
        Checks.due("trim(8)", Checks.trim(x, 8), 4);
        Checks.read(x, 9, 3, 1, 4, 1, 3, 3, 5, 5, 3);
        for (int r = 4; r <= 6; r++) {
            Checks.due("limit", Checks.row(x, r, 11), 0);
            Checks.due("limited by 0", Checks.row(x, r, 10), 1);
        }
        x.begin();
        Checks.read(x, x.digest(), 8, 0, 8, 1, 8, 2, 6, 0, 0, 0, 6, 0, 0, 1, 7, 0, 1, 3, 4, 7, 2, 0, 3, 4);
        Checks.due("limit of a join", Checks.row(x, 5, 11), -6);
        Checks.due("limit of a join", Checks.row(x, 6, 11), 0);
        Checks.dueRow(x, 5, 4, 1, 2);
        Checks.dueRow(x, 6, 4, 1, 2);
        Checks.due("a row without a limit", Checks.row(x, 3, 10), 0);
        Checks.due("a row without a limit", Checks.row(x, 3, 11), 0);
    }

    private static void pushes() {
        // x 0 to 3, y -2 to 5, z -4 to -1.
        PlanCertificates x = Checks.withModel(3, 0, 3, 1, -2, 5, 1, -4, -1, 1,
                3, 3, 2, -5, 10, -3, 4, 7, -11, 0, 0, 2, -3, 0);
        Checks.begin(x);
        Checks.read(x, 0, 0, 0, 1, 0, 2);
        // 0: less the least of others: x: -(-4) - (5) = 10 + 4 - 5 = 9; y: 10 - 0 - 5 = 5; z: 10 - 0 + 4 = 14.
        Checks.read(x, 9, 0, 0, 9, 0, 1, 9, 0, 2);
        Checks.dueRow(x, 3, 3, 1, 0, 0);
        Checks.dueRow(x, 4, 2, 0, 1, 0);
        Checks.dueRow(x, 5, 2, 0, 0, -1);
        // 1: x: -11 + 8 + 28 = 25; y: -11 + 9 + 28 = 26; z: -11 + 9 + 8 = 6.
        Checks.read(x, 9, 1, 0, 9, 1, 1, 9, 1, 2, 9, 2, 2);
        Checks.dueRow(x, 6, 8, -1, 0, 0);
        Checks.dueRow(x, 7, 6, 0, 1, 0);
        Checks.dueRow(x, 8, 0, 0, 0, 1);
        Checks.dueRow(x, 9, -2, 0, 0, 1);
        Checks.due("kind", Checks.row(x, 9, 12), 9);
        Checks.due("needs", Checks.row(x, 9, 13), 2);
        // Rounding down below 0 with a factor below 0: -2x <= -3 is -x <= -2.
        x = Checks.withModel(1, 0, 3, 1, 1, -2, -3, 0);
        Checks.begin(x);
        Checks.read(x, 0, 0, 9, 0, 0);
        Checks.dueRow(x, 1, -2, -1);
    }

    private static void needs() {
        PlanCertificates x = three();
        Checks.read(x, 1, 0);
        for (int r = 1; r < 100; r++) {
            Checks.read(x, 4, 2, r - 1, 1, 0, 1);
        }
        for (int r = 0; r < 100; r++) {
            Checks.due("row(" + r + ", 13)", Checks.row(x, r, 13), r + 1);
        }
        Checks.read(x, 1, 2, 4, 1, 100, 2);
        Checks.due("needs of what stands apart", Checks.row(x, 101, 13), 2);
    }

    private static void outside() {
        PlanCertificates x = three();
        Checks.plan(x, 0, 2, -9);
        Checks.read(x, 1, 0);
        int[] rows = {-1, 1, 200, Integer.MIN_VALUE, Integer.MAX_VALUE};
        for (int r : rows) {
            Checks.due("row(" + r + ", 0)", Checks.row(x, r, 0), Checks.THROWS_INDEX);
            Checks.due("row(" + r + ", 8)", Checks.row(x, r, 8), Checks.THROWS_INDEX);
            Checks.due("row(" + r + ", 13)", Checks.row(x, r, 13), Checks.THROWS_INDEX);
            Checks.due("assumes(" + r + ", 0)", Checks.assumes(x, r, 0), Checks.THROWS_INDEX);
            Checks.due("holds(" + r + ", 0)", Checks.holds(x, r, 0), Checks.THROWS_INDEX);
        }
        int[] whats = {-1, 3, 4, 7, 14, Integer.MIN_VALUE, Integer.MAX_VALUE};
        for (int what : whats) {
            Checks.due("row(0, " + what + ")", Checks.row(x, 0, what), Checks.THROWS_INDEX);
        }
        int[] plans = {-1, 1, 8, Integer.MIN_VALUE, Integer.MAX_VALUE};
        for (int plan : plans) {
            Checks.due("holds(0, " + plan + ")", Checks.holds(x, 0, plan), Checks.THROWS_INDEX);
        }
        PlanCertificates y = Checks.withModel(8, 0, 0, 0, 0, 0, 0, 0, 0, 0, 0, 0, 0, 0, 0, 0, 0, 0, 0,
                0, 0, 0, 0, 6, 0, 0, 0);
        Checks.begin(y);
        Checks.read(y, 1, 7);
        Checks.dueRow(y, 0, 6, 0, 0, 0, 0, 0, 0, 0, 1);
    }

    private static void holding() {
        PlanCertificates x = Checks.withModel(2, 0, 9, 1, 0, 9, 2, 1, 1, 1, 8, 0);
        Checks.plan(x, 4, 4);
        Checks.plan(x, 5, 4);
        Checks.plan(x, -100, 0);
        Checks.plan(x, 2, 5);
        Checks.plan(x, 3, 5);
        Checks.begin(x);
        // 0: rule; 1: x <= 3; 2: -x <= -4; 3: 2x + y <= 11 under 1; 4: cost <= 11, limit 12.
        Checks.read(x, 0, 0, 6, 0, 3, 0, 6, 0, 3, 1, 4, 2, 0, 1, 1, 1, 8, 0, 4, 2, 3, 1, 4, 1);
        dueHolds(x, 0, 1, 0, 1, 1, 1);
        dueHolds(x, 1, 2, 2, 1, 1, 1);
        dueHolds(x, 2, 1, 1, 2, 2, 2);
        dueHolds(x, 3, 2, 2, 1, 1, 1);
        dueHolds(x, 4, 2, 2, 1, 2, 2);
        dueHolds(x, 5, 2, 2, 1, 2, 2);
        // Under assumptions that are kept, what is said may still be wrong of a plan that is not good.
        Checks.plan(x, 3, 6);
        Checks.due("holds(3, 5)", Checks.holds(x, 3, 5), 0);
        Checks.plan(x, 9, 1);
        Checks.due("costs less than the limit", Checks.holds(x, 4, 6), 1);
        Checks.due("breaks", x.breaks(6), 100);
    }

    private static void dueHolds(PlanCertificates x, int row, int... answers) {
        for (int plan = 0; plan < answers.length; plan++) {
            Checks.due("holds(" + row + ", " + plan + ")", Checks.holds(x, row, plan), answers[plan]);
        }
    }

    /** Eight factors of 10^12 times a million each stay within a long. */
    private static void greatHolding() {
        int[] model = new int[1 + 24 + 1 + 2 * 9 + 1];
        model[0] = 8;
        model[25] = 2;
        for (int v = 0; v < 8; v++) {
            model[26 + v] = 1;
            model[35 + v] = -1;
        }
        PlanCertificates x = Checks.withModel(model);
        int m = 1000000;
        Checks.plan(x, m, m, m, m, m, m, m, m);
        Checks.plan(x, -m, -m, -m, -m, -m, -m, -m, -m);
        Checks.begin(x);
        Checks.read(x, 0, 0, 4, 1, 0, 1000, 4, 1, 1, 1000, 4, 1, 2, 1000, 4, 1, 3, 1000);
        Checks.read(x, 0, 1, 4, 1, 5, 1000, 4, 1, 6, 1000, 4, 1, 7, 1000, 4, 1, 8, 1000);
        Checks.dueRow(x, 4, 0, 1000000000000L, 1000000000000L);
        Checks.dueRow(x, 9, 0, -1000000000000L, -1000000000000L);
        dueHolds(x, 4, 0, 1);
        dueHolds(x, 9, 1, 0);
    }
}
