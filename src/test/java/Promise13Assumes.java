/** Promise 13: assumes. */
public final class Promise13Assumes {
    public static void main(String[] args) {
        ofRowsWithoutAny();
        ofABranch();
        byNumbers();
        allSixty();
        joinTakesAway();
        numbersBeyond();
        noSuchRow();
        throwingChangesNothing();
        Checks.finish();
    }

    private static void ofRowsWithoutAny() {
        PlanCertificates x = Fill.begun();
        Checks.read(x, x.digest(), 0, 0, 1, 0, 2, 0, 3, 0, 1, 1, 4, 1, 0, 2, 5, 0, 2, 8, 0, 9, 1, 0);
        Checks.due("rows", x.told(5), 8);
        for (int row = 0; row < 8; row++) {
            Checks.dueAssumptions(x, row);
        }
    }

    /** It is an ASSUMPTION of its own. */
    private static void ofABranch() {
        PlanCertificates x = Fill.begun();
        Checks.read(x, x.digest(), 6, 0, 0, 0, 1, 0, 6, 0, 0, 0, 6, 0, 0, 1);
        Checks.dueAssumptions(x, 0, 0);
        Checks.dueAssumptions(x, 1);
        Checks.dueAssumptions(x, 2, 2);
        Checks.dueAssumptions(x, 3, 3);
    }

    /** The i-th BRANCH (from 0 on, by numbers): not as they came into the row; each once. */
    private static void byNumbers() {
        PlanCertificates x = Fill.begun();
        // 0: a row, 1: branch, 2: a row, 3: branch, 4: branch.
        Checks.read(x, x.digest(), 1, 0, 6, 0, 0, 0, 1, 1, 6, 0, 1, 0, 6, 0, 2, 1);
        Checks.read(x, 4, 3, 4, 1, 3, 1, 1, 1, 4, 3, 4, 1, 0, 1, 4, 2, 4, 2, 5, 1, 6, 1, 9, 3, 0, 4, 1, 3, 2, 5, 9, 2);
        Checks.due("rows", x.told(5), 11);
        Checks.dueAssumptions(x, 5, 1, 3, 4);
        Checks.dueAssumptions(x, 6, 4);
        Checks.dueAssumptions(x, 7, 1, 3, 4);
        Checks.dueAssumptions(x, 8, 3);
        Checks.dueAssumptions(x, 9, 3);
        Checks.dueAssumptions(x, 10, 3);
    }

    private static void allSixty() {
        PlanCertificates x = Fill.begun();
        Fill.branches(x, 60);
        int last = 0;
        for (int b = 58; b >= 1; b -= 3) {
            Checks.read(x, 4, 4, last, 1, b, 1, b + 1, 1, b > 1 ? b - 1 : b, 1);
            last = x.told(5) - 1;
        }
        Checks.due("all", Checks.row(x, last, 9), 60);
        for (int i = 0; i < 60; i++) {
            Checks.due("assumes(" + i + ")", Checks.assumes(x, last, i), i);
        }
        Checks.due("assumes(60)", Checks.assumes(x, last, 60), PlanCertificates.NONE);
        Checks.due("of the 60th", Checks.assumes(x, 59, 0), 59);
    }

    /** Of JOIN: those of a but c, and those of b but d. */
    private static void joinTakesAway() {
        PlanCertificates x = Fill.begun();
        // 0 and 1: x <= 0 or not, 2 and 3: y <= 4 or not, 4: x <= 1; 5: under 0 and 2, 6: under 1 and 2,
        // 7: under 0 and 1, 8: under all.
        Checks.read(x, x.digest(), 6, 0, 0, 0, 6, 0, 0, 1, 6, 1, 4, 0, 6, 1, 4, 1, 1, 0);
        Checks.read(x, 4, 2, 0, 1, 2, 1, 4, 4, 1, 1, 2, 1, 4, 1, 4, 1);
        Checks.dueRow(x, 5, 4, 1, 1);
        Checks.dueRow(x, 6, 5, 1, 1);
        Checks.read(x, 4, 4, 0, 1, 1, 1, 4, 1, 4, 1, 4, 3, 7, 1, 2, 1, 3, 1);
        Checks.dueAssumptions(x, 8, 0, 1, 2, 3);
        int[][] joins = {{5, 6, 0, 1}, {6, 5, 0, 1}, {5, 6, 2, 3}, {5, 5, 0, 1}, {6, 6, 0, 1}, {8, 8, 0, 1}, {4, 4, 0, 1}};
        int[][] due = {{2}, {0, 1, 2}, {0, 1, 2}, {0, 2}, {1, 2}, {0, 1, 2, 3}, {}};
        for (int i = 0; i < joins.length; i++) {
            int[] j = joins[i];
            Checks.due("JOIN", Checks.read(x, 7, j[0], j[1], j[2], j[3]), 10 + i);
            Checks.dueAssumptions(x, 9 + i, due[i]);
        }
    }

    /** NONE: none such. */
    private static void numbersBeyond() {
        PlanCertificates x = Fill.begun();
        Checks.read(x, x.digest(), 1, 0, 6, 0, 0, 0, 6, 0, 0, 1, 4, 2, 1, 1, 2, 1);
        int[] wrong = {Integer.MIN_VALUE, -60, -2, -1, 2, 3, 59, 60, 63, 64, 65, Integer.MAX_VALUE};
        for (int i : wrong) {
            for (int row = 0; row < 4; row++) {
                Checks.due("assumes(" + row + ", " + i + ")", Checks.assumes(x, row, i), PlanCertificates.NONE);
            }
        }
        Checks.due("assumes(3, 0)", Checks.assumes(x, 3, 0), 1);
        Checks.due("assumes(3, 1)", Checks.assumes(x, 3, 1), 2);
        Checks.due("assumes(1, 1)", Checks.assumes(x, 1, 1), PlanCertificates.NONE);
        Checks.due("assumes(0, 0)", Checks.assumes(x, 0, 0), PlanCertificates.NONE);
    }

    private static void noSuchRow() {
        int[] wrong = {Integer.MIN_VALUE, -1, 1, 200, Integer.MAX_VALUE};
        int[] whichever = {-1, 0, 60};
        PlanCertificates x = Fill.begun();
        Checks.read(x, x.digest(), 6, 0, 0, 0, 1);
        for (int row : wrong) {
            for (int i : whichever) {
                Checks.due("assumes(" + row + ", " + i + ")", Checks.assumes(x, row, i), Checks.THROWS_INDEX);
            }
        }
        Checks.due("without a model", Checks.assumes(new PlanCertificates(), 0, 0), Checks.THROWS_INDEX);
        Checks.due("without a certificate", Checks.assumes(Checks.withModel(Fill.MODEL), 0, 0), Checks.THROWS_INDEX);
        x = Fill.begun();
        Fill.rows(x, 200, 1, 0);
        Checks.due("assumes(199, 0)", Checks.assumes(x, 199, 0), PlanCertificates.NONE);
        Checks.due("assumes(200, 0)", Checks.assumes(x, 200, 0), Checks.THROWS_INDEX);
    }

    private static void throwingChangesNothing() {
        int[] wrong = {-1, 200};
        for (int row : wrong) {
            Twins.unchanged("assumes(" + row + ", 0)",
                    x -> Checks.due("assumes()", Checks.assumes(x, row, 0), Checks.THROWS_INDEX));
        }
    }
}
