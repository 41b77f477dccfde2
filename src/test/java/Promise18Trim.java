/** Promise 18: trim. */
public final class Promise18Trim {
    public static void main(String[] args) {
        noSuchRow();
        throwingChangesNothing();
        oneRowAlone();
        allRows();
        justThoseThatAreNeeded();
        onlyRowsAreNumberedAnew();
        joinNeedsAllFour();
        branchesAndAssumptionsAnew();
        withoutAFault();
        withoutARowThatIsNotWhole();
        roomAgain();
        allElseStays();
        Checks.finish();
    }

    private static void noSuchRow() {
        int[] wrong = {Integer.MIN_VALUE, -2, -1, 2, 3, 200, Integer.MAX_VALUE};
        PlanCertificates x = Fill.begun();
        Checks.due("without rows", Checks.trim(x, 0), Checks.THROWS_INDEX);
        Checks.read(x, x.digest(), 1, 0, 1, 1, 4, 1);
        for (int row : wrong) {
            Checks.due("trim(" + row + ")", Checks.trim(x, row), Checks.THROWS_INDEX);
        }
        Checks.dueNumbers(x, x.digest(), 1, 0, 1, 1, 4, 1);
        Checks.due("a row that is not whole goes on", Checks.read(x, 1, 2), 3);
        Checks.due("without a model", Checks.trim(new PlanCertificates(), 0), Checks.THROWS_INDEX);
        Checks.due("without a certificate", Checks.trim(Checks.withModel(Fill.MODEL), 0), Checks.THROWS_INDEX);
        x = Fill.begun();
        Fill.rows(x, 200, 1, 0);
        Checks.due("trim(200)", Checks.trim(x, 200), Checks.THROWS_INDEX);
        Checks.due("told(5)", x.told(5), 200);
        Checks.due("trim(199)", Checks.trim(x, 199), 1);
    }

    private static void throwingChangesNothing() {
        int[] wrong = {-1, 200};
        for (int row : wrong) {
            Twins.unchanged("trim(" + row + ")",
                    x -> Checks.due("trim()", Checks.trim(x, row), Checks.THROWS_INDEX));
        }
    }

    private static void oneRowAlone() {
        int[][] rows = {{1, 0}, {6, 1, 3, 1}, {8, 0}, {3, 0, 1, -1}};
        for (int row = 0; row < rows.length; row++) {
            PlanCertificates x = Fill.begun();
            Checks.read(x, x.digest(), 1, 0, 6, 1, 3, 1, 8, 0, 3, 0, 1, -1);
            Checks.due("trim(" + row + ")", Checks.trim(x, row), 1);
            int[] due = new int[1 + rows[row].length];
            due[0] = x.digest();
            System.arraycopy(rows[row], 0, due, 1, rows[row].length);
            Checks.dueNumbers(x, due);
            Checks.due("told(5)", x.told(5), 1);
            Checks.due("told(6)", x.told(6), row == 1 ? 1 : 0);
            Checks.due("kind", Checks.row(x, 0, 12), rows[row][0]);
            Checks.due("again", Checks.trim(x, 0), 1);
            Checks.dueNumbers(x, due);
        }
    }

    /** 200 rows, each of which the last one needs: nothing changes. */
    private static void allRows() {
        PlanCertificates x = Fill.begun();
        int[] numbers = new int[3 + 4 * 199];
        numbers[0] = x.digest();
        numbers[1] = 2;
        for (int row = 1; row < 200; row++) {
            numbers[4 * row - 1] = 4;
            numbers[4 * row] = 1;
            numbers[4 * row + 1] = row - 1;
            numbers[4 * row + 2] = 1;
        }
        Fill.inTapes(x, numbers);
        Checks.due("trim(199)", Checks.trim(x, 199), 200);
        Checks.due("told(7)", x.told(7), numbers.length);
        for (int i = 0; i < numbers.length; i += 5) {
            Checks.due("number(" + i + ")", Checks.number(x, i), numbers[i]);
        }
        Checks.due("trim(198)", Checks.trim(x, 198), 199);
        Checks.due("told(7)", x.told(7), numbers.length - 4);
        Checks.due("it may go on", Checks.read(x, 1, 0), 200);
    }

    /** Just those ROWS that a ROW needs, in their order, numbered anew. */
    private static void justThoseThatAreNeeded() {
        PlanCertificates x = Fill.begun();
        // 3 is made of 1, 5 of 3 and 0; 2 and 4 are not needed, 6 stands behind.
        Checks.read(x, x.digest(), 1, 0, 1, 1, 2, 0, 4, 1, 1, 7, 2, 1, 4, 3, 3, 2, 0, 5, 3, 1, 4, 1, 5, 9);
        Checks.due("seven rows", x.told(5), 7);
        Checks.due("needs", Checks.row(x, 5, 13), 4);
        Checks.due("trim(5)", Checks.trim(x, 5), 4);
        Checks.dueNumbers(x, x.digest(), 1, 0, 1, 1, 4, 1, 1, 7, 4, 3, 2, 2, 0, 5, 2, 1);
        Checks.dueRow(x, 0, 1, 1, 0);
        Checks.dueRow(x, 1, 9, 0, 1);
        Checks.dueRow(x, 2, 63, 0, 7);
        Checks.dueRow(x, 3, 194, 5, 21);
        Checks.due("row(4, 8)", Checks.row(x, 4, 8), Checks.THROWS_INDEX);
        Checks.due("trim(2)", Checks.trim(x, 2), 2);
        Checks.dueNumbers(x, x.digest(), 1, 1, 4, 1, 0, 7);
        Checks.due("trim(0)", Checks.trim(x, 0), 1);
        Checks.dueNumbers(x, x.digest(), 1, 1);
    }

    /** RULES, VARIABLES, TABLES, PLANS, b, c and how often stay as they are. */
    private static void onlyRowsAreNumberedAnew() {
        PlanCertificates x = Fill.begun();
        int digest = x.digest();
        Checks.plan(x, 1, 3);
        Checks.plan(x, 0, 0);
        // Rows 0 and 1 are not needed; 2 to 7 name 0, 1, 2, 3 as anything but rows.
        Checks.read(x, digest, 1, 0, 1, 0, 0, 0, 1, 1, 2, 1, 3, 0, 2, 3, 8, 3, 6, 1, 3, 1);
        // 8 and 9: SUMS with how often 2 to 7; 10: DIVIDE by 2; 11: PUSH of 1; 12: SUM of all.
        Checks.read(x, 4, 3, 2, 2, 3, 4, 4, 6, 4, 3, 5, 2, 6, 3, 7, 7, 5, 8, 2, 9, 9, 1, 4, 2, 10, 2, 11, 3);
        Checks.due("rows", x.told(5), 13);
        Checks.due("fault", x.fault(0), 0);
        Checks.due("trim(12)", Checks.trim(x, 12), 11);
        Checks.dueNumbers(x, digest, 0, 0, 1, 1, 2, 1, 3, 0, 2, 3, 8, 3, 6, 1, 3, 1,
                4, 3, 0, 2, 1, 4, 2, 6, 4, 3, 3, 2, 4, 3, 5, 7, 5, 6, 2, 9, 7, 1, 4, 2, 8, 2, 9, 3);
    }

    private static void joinNeedsAllFour() {
        PlanCertificates x = Fill.begun();
        // 0: not needed, 1 and 3: branches, 2 not needed, 4: x <= 1, 5: x <= 1 again, 6: JOIN.
        Checks.read(x, x.digest(), 2, 0, 6, 1, 4, 0, 2, 1, 6, 1, 4, 1, 1, 0, 1, 0, 7, 4, 5, 1, 3);
        Checks.due("needs", Checks.row(x, 6, 13), 5);
        Checks.due("trim(6)", Checks.trim(x, 6), 5);
        Checks.dueNumbers(x, x.digest(), 6, 1, 4, 0, 6, 1, 4, 1, 1, 0, 1, 0, 7, 2, 3, 0, 1);
        Checks.dueAssumptions(x, 4);
        Checks.dueRow(x, 4, 1, 1, 0);
    }

    private static void branchesAndAssumptionsAnew() {
        PlanCertificates x = Fill.begun();
        Fill.branches(x, 60);
        Checks.read(x, 4, 2, 59, 1, 7, 1, 6);
        Checks.due("the 61st BRANCH", x.fault(0), 9);
        Checks.dueAssumptions(x, 60, 7, 59);
        Checks.due("trim(60)", Checks.trim(x, 60), 3);
        Checks.due("told(6)", x.told(6), 2);
        Checks.dueAssumptions(x, 0, 0);
        Checks.dueAssumptions(x, 1, 1);
        Checks.dueAssumptions(x, 2, 0, 1);
        Checks.dueRow(x, 0, 7, 1, 0);
        Checks.dueRow(x, 1, 59, 1, 0);
        int[] branches = new int[4 * 58];
        for (int i = 0; i < 58; i++) {
            branches[4 * i] = 6;
        }
        Checks.due("58 more", Checks.read(x, branches), 61);
        Checks.due("told(6)", x.told(6), 60);
        Checks.due("and none beyond", Checks.read(x, 6), -19);
    }

    private static void withoutAFault() {
        int[][] wrong = {{10}, {1, 2}, {5, 9}, {5, 0, 2}, {7, 0, 0, 0, 0}, {7, 0, 1, 2, 3}, {4, 1, 7, 2}};
        for (int i = 0; i < wrong.length; i++) {
            PlanCertificates x = Fill.begun();
            Fill.read(x, 29, wrong[i]);
            Checks.due("fault(0)", x.fault(0), i + 2);
            Checks.due("trim(1)", Checks.trim(x, 1), 1);
            Checks.dueFault(x, 0, PlanCertificates.NONE, PlanCertificates.NONE);
            Checks.dueNumbers(x, x.digest(), 1, 1);
            Checks.due("an empty tape", x.read(), 1);
            Checks.due("it may go on", Checks.read(x, 4, 1, 0, 3), 2);
            Checks.dueRow(x, 1, 27, 0, 3);
        }
        PlanCertificates x = Fill.begun();
        Fill.read(x, 1500, 1);
        Checks.due("the 1501st number", x.fault(0), 9);
        Checks.due("trim(7)", Checks.trim(x, 7), 5);
        Checks.dueFault(x, 0, -1, -1);
        Checks.due("told(7)", x.told(7), 19);
        Checks.due("it may go on", Checks.read(x, 1, 0), 6);
    }

    /** A number that is no part of those ROWS is no part of the certificate then. */
    private static void withoutARowThatIsNotWhole() {
        PlanCertificates x = Fill.begun();
        Checks.read(x, x.digest(), 1, 0, 1, 1, 4, 4, 0, 1);
        Checks.due("trim(1)", Checks.trim(x, 1), 1);
        Checks.dueNumbers(x, x.digest(), 1, 1);
        Checks.due("the next number is a KIND", Checks.read(x, 2, 0), 2);
        Checks.dueRow(x, 1, 0, -1, 0);
    }

    /** What was full has room again. */
    private static void roomAgain() {
        PlanCertificates x = Fill.begun();
        Fill.rows(x, 201, 1, 0);
        Checks.due("too many rows", x.fault(0), 9);
        Checks.due("trim(0)", Checks.trim(x, 0), 1);
        int[] more = new int[2 * 199];
        java.util.Arrays.fill(more, 1);
        Checks.due("199 more", Checks.read(x, more), 200);
        Checks.due("and none beyond", Checks.read(x, 1), -19);
    }

    private static void allElseStays() {
        PlanCertificates x = Twins.inState(Twins.IN_A_ROW);
        int digest = x.digest();
        Checks.due("trim(3)", Checks.trim(x, 3), 1);
        int[] due = {3, 2, 1, 1, 2, 1, 0, 3};
        for (int what = 0; what < due.length; what++) {
            Checks.due("told(" + what + ")", x.told(what), due[what]);
        }
        Checks.due("digest()", x.digest(), digest);
        Checks.due("breaks(1)", x.breaks(1), 200);
        // The tape is 3, 2, 1: no TABLE 2.
        Checks.due("read() of the tape", x.read(), -14);
        x = Twins.inState(Twins.PROVED);
        Checks.due("trim(6)", Checks.trim(x, 6), 4);
        Checks.due("proved()", x.proved(), 2);
        Checks.due("best()", Checks.best(x), 0);
    }
}
