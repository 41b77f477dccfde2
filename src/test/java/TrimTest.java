/** Promises 18 (trim) and 19 (number). */
public final class TrimTest {
    public static void main(String[] args) {
        numbers();
        leavesOut();
        renumbersEachKind();
        forgetsFaultAndHalfRows();
        goesOn();
        outside();
        Checks.finish();
    }

    private static PlanCertificates fresh() {
        PlanCertificates x = Checks.withModel(2, 0, 9, 1, 0, 9, 2, 1, 2, -4, 7, 1, 0, 1, 3, 0, 0, 1, 5, 2, 3);
        Checks.plan(x, 9, 9);
        Checks.plan(x, 1, 5);
        Checks.begin(x);
        return x;
    }

    private static void numbers() {
        PlanCertificates x = fresh();
        Checks.dueNumbers(x, x.digest());
        Checks.read(x, 1, 0, 4, 1);
        Checks.dueNumbers(x, x.digest(), 1, 0, 4, 1);
        Checks.due("number(-1)", Checks.number(x, -1), Checks.THROWS_INDEX);
        Checks.due("number of the least", Checks.number(x, Integer.MIN_VALUE), Checks.THROWS_INDEX);
        Checks.due("number of the greatest", Checks.number(x, Integer.MAX_VALUE), Checks.THROWS_INDEX);
        Checks.read(x, 0, -7, 1, 1);
        Checks.dueNumbers(x, x.digest(), 1, 0, 4, 1, 0, -7);
        Checks.read(x, 5, 5);
        Checks.dueNumbers(x, x.digest(), 1, 0, 4, 1, 0, -7);
    }

    private static void leavesOut() {
        PlanCertificates x = fresh();
        Checks.read(x, 0, 0, 1, 0, 1, 1, 2, 0, 4, 2, 1, 3, 3, 5, 2, 1);
        Checks.put(x, 3, 3);
        Checks.due("trim(4)", Checks.trim(x, 4), 3);
        Checks.due("the tape stays", x.drop(), 2);
        Checks.dueNumbers(x, x.digest(), 1, 0, 2, 0, 4, 2, 0, 3, 1, 5);
        Checks.due("rows", x.told(5), 3);
        Checks.due("plans", x.told(4), 2);
        Checks.dueRow(x, 0, 9, 1, 0);
        Checks.dueRow(x, 1, 0, -1, 0);
        Checks.dueRow(x, 2, 27, -2, 0);
        Checks.due("row(3, 0)", Checks.row(x, 3, 0), Checks.THROWS_INDEX);
        Checks.due("trim of all", Checks.trim(x, 2), 3);
        Checks.dueNumbers(x, x.digest(), 1, 0, 2, 0, 4, 2, 0, 3, 1, 5);
        Checks.due("trim(1)", Checks.trim(x, 1), 1);
        Checks.dueNumbers(x, x.digest(), 2, 0);
        Checks.dueRow(x, 0, 0, -1, 0);
    }

    private static void renumbersEachKind() {
        PlanCertificates x = fresh();
        // Each needed row has one behind it that nothing needs; 8 1 names a plan, 3 0 a table.
        Checks.read(x, 1, 1, 6, 0, 7, 0, 2, 0, 6, 1, 3, 0, 1, 0, 6, 1, 3, 1, 2, 1);
        // 1: x <= 7, 3: y <= 3, 5: -y <= -4 are branches.
        Checks.read(x, 3, 0, 1, 1, 0, 0, 8, 1, 1, 0);
        // 7: x + y <= 6; 8: a rule; 9: x + 2y <= 10 (limit 11); 10: x <= 9.
        Checks.read(x, 4, 2, 7, 2, 3, 2, 4, 1, 0, 1, 4, 3, 9, 2, 5, 2, 10, 2);
        // 11: 2x + 4y <= 18 under 3; 13: 4x + 2y <= 20 - 8 + 18 under 5, limit 11.
        Checks.dueRow(x, 11, 18, 2, 4);
        Checks.dueRow(x, 13, 30, 4, 2);
        Checks.read(x, 5, 11, 2, 4, 1, 0, 1, 5, 13, 2, 4, 4, 15, 1, 14, 1, 1, 1, 16, 2);
        Checks.due("rows", x.told(5), 18);
        Checks.due("fault", x.fault(0), 0);
        // 14: x + 2y <= 9 under 3; 16: 2x + y <= 15 under 5; 17: y <= 9, 14, 1, 16 twice.
        Checks.read(x, 9, 14, 0, 9, 16, 0, 4, 1, 0, 1, 7, 18, 19, 3, 5);
        Checks.due("rows", x.told(5), 22);
        Checks.dueRow(x, 18, 9, 1, 0);
        Checks.dueRow(x, 19, 7, 1, 0);
        Checks.dueRow(x, 21, 9, 1, 0);
        Checks.dueAssumptions(x, 21);
        Checks.due("needs", Checks.row(x, 21, 13), 12);
        Checks.due("needs", Checks.row(x, 17, 13), 13);
        Checks.dueAssumptions(x, 17, 1, 3, 5);
        PlanCertificates y = fresh();
        copy(x, y);
        Checks.due("trim(21)", Checks.trim(x, 21), 12);
        Checks.dueNumbers(x, x.digest(), 6, 1, 3, 0, 6, 1, 3, 1, 3, 0, 1, 1, 8, 1, 1, 0,
                4, 2, 2, 2, 0, 2, 4, 3, 3, 2, 1, 2, 4, 2, 5, 5, 2, 5, 6, 2, 9, 7, 0, 9, 8, 0, 7, 9, 10, 0, 1);
        Checks.dueRow(x, 11, 9, 1, 0);
        Checks.dueRow(x, 10, 7, 1, 0);
        Checks.dueAssumptions(x, 9, 0);
        Checks.dueAssumptions(x, 10, 1);
        Checks.dueAssumptions(x, 11);
        Checks.due("limit", Checks.row(x, 11, 11), 11);
        Checks.due("limited", Checks.row(x, 9, 10), 0);
        Checks.due("branches", x.told(6), 2);
        Checks.due("trim(17)", Checks.trim(y, 17), 13);
        Checks.dueAssumptions(y, 12, 1, 2, 3);
        Checks.due("branches", y.told(6), 3);
        Checks.due("limit", Checks.row(y, 12, 11), 11);
    }

    private static void copy(PlanCertificates from, PlanCertificates to) {
        to.begin();
        for (int i = 0; i < from.told(7); i++) {
            to.put(1, from.number(i), 0, 0, 0);
        }
        Checks.due("read() of a copy", to.read(), from.told(5));
    }

    private static void forgetsFaultAndHalfRows() {
        PlanCertificates x = fresh();
        Checks.read(x, 1, 0, 1, 1, 4, 2, 1);
        Checks.due("trim in the midst of a row", Checks.trim(x, 1), 1);
        Checks.dueNumbers(x, x.digest(), 1, 1);
        Checks.due("a new row", Checks.read(x, 2, 0), 2);
        Checks.read(x, 5, 0, 2);
        Checks.dueFault(x, 5, 2, 7);
        Checks.due("trim behind a fault", Checks.trim(x, 1), 1);
        Checks.dueFault(x, 0, -1, -1);
        Checks.dueNumbers(x, x.digest(), 2, 0);
        Checks.due("it goes on", Checks.read(x, 1, 0), 2);
        Checks.due("needing all it has", Checks.read(x, 4, 2, 0, 1, 1, 1, 11), -12);
        Checks.due("trim of all", Checks.trim(x, 2), 3);
        Checks.dueFault(x, 0, -1, -1);
        Checks.dueNumbers(x, x.digest(), 2, 0, 1, 0, 4, 2, 0, 1, 1, 1);
    }

    private static void goesOn() {
        PlanCertificates x = fresh();
        x.begin();
        Checks.due("200 rows", Fill.rows(x, 200, 1, 0), 200);
        Checks.due("too many rows", Checks.read(x, 1), -19);
        Checks.due("trim(199)", Checks.trim(x, 199), 1);
        for (int i = 1; i < 100; i++) {
            Checks.due("goes on", Checks.read(x, 2, 0), i + 1);
        }
        int[] more = new int[2 * 100];
        for (int i = 0; i < more.length; i += 2) {
            more[i] = 2;
        }
        Checks.due("200 rows again", Checks.read(x, more), 200);
        Checks.due("too many again", Checks.read(x, 1), -19);
        Checks.dueFault(x, 9, 200, 401);
        Checks.due("begin() tells what is left", fewer(x), 3);
        Checks.due("rows", x.told(5), 0);
    }

    private static int fewer(PlanCertificates x) {
        Checks.due("trim(0)", Checks.trim(x, 0), 1);
        return x.begin();
    }

    private static void outside() {
        PlanCertificates x = fresh();
        Checks.due("trim(0) without rows", Checks.trim(x, 0), Checks.THROWS_INDEX);
        Checks.read(x, 1, 0, 1, 1, 44);
        int[] rows = {-1, 2, 200, Integer.MIN_VALUE, Integer.MAX_VALUE};
        for (int r : rows) {
            Checks.due("trim(" + r + ")", Checks.trim(x, r), Checks.THROWS_INDEX);
        }
        Checks.dueNumbers(x, x.digest(), 1, 0, 1, 1, 44);
        Checks.dueFault(x, 2, 2, 5);
        Checks.due("rows", x.told(5), 2);
    }
}
