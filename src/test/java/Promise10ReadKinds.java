import java.util.Arrays;
import java.util.function.IntFunction;

/** Promise 10: read. How the numbers of each KIND are bounded, each as the number is there. */
public final class Promise10ReadKinds {
    private static final IntFunction<int[]> NO_REST = value -> new int[0];

    private final int variables;
    private final int rules;
    private final int tables;
    private final int plans;

    private Promise10ReadKinds(int variables, int rules, int tables, int plans) {
        this.variables = variables;
        this.rules = rules;
        this.tables = tables;
        this.plans = plans;
    }

    public static void main(String[] args) {
        int[][] sizes = {{1, 1, 0, 0}, {2, 1, 1, 1}, {7, 19, 3, 7}, {8, 20, 4, 8}};
        for (int[] size : sizes) {
            Promise10ReadKinds test = new Promise10ReadKinds(size[0], size[1], size[2], size[3]);
            test.kinds();
            test.given();
            test.upperAndLower();
            test.table();
            test.sum();
            test.divide();
            test.branch();
            test.join();
            test.better();
            test.push();
        }
        withoutRulesTablesPlans();
        plansThatAreNotGood();
        nothingStandsBeforeTheFirstRow();
        beforeTheLastRow();
        Checks.finish();
    }

    /** Each variable is 0 to 9 and costs 1; each rule: twice all of them is at most 7; plans of 0 are good. */
    private PlanCertificates begun() {
        int[] m = new int[3 + 3 * variables + rules * (variables + 1) + 5 * tables];
        int n = 0;
        m[n++] = variables;
        for (int v = 0; v < variables; v++) {
            n++;
            m[n++] = 9;
            m[n++] = 1;
        }
        m[n++] = rules;
        for (int r = 0; r < rules; r++) {
            Arrays.fill(m, n, n + variables, 2);
            n += variables;
            m[n++] = 7;
        }
        m[n++] = tables;
        for (int t = 0; t < tables; t++) {
            m[n++] = variables - 1;
            n++;
            m[n++] = 1;
            n += 2;
        }
        PlanCertificates x = Checks.withModel(m);
        for (int plan = 0; plan < plans; plan++) {
            Checks.due("plan()", Checks.plan(x, new int[variables]), plan);
        }
        x.begin();
        return x;
    }

    /** Rows 0 and 4: rule 0; 1: that 1000 times; 2 and 3: x <= 4 or not. */
    private PlanCertificates withRows() {
        PlanCertificates x = begun();
        Checks.due("five rows", Checks.read(x, x.digest(), 0, 0, 4, 1, 0, 1000, 6, 0, 4, 0, 6, 0, 4, 1, 0, 0), 5);
        return x;
    }

    /** Behind these numbers of a row, lowest to highest is right; then the rest makes the row whole. */
    private void bounds(int[] before, int lowest, int highest, int fault, IntFunction<int[]> rest) {
        if (lowest <= highest) {
            right(before, lowest, rest.apply(lowest));
            right(before, highest, rest.apply(highest));
        }
        int[] wrong = {Integer.MIN_VALUE, lowest - 1, highest + 1, Integer.MAX_VALUE};
        for (int number : wrong) {
            wrong(before, number, fault);
        }
    }

    private void right(int[] before, int number, int[] rest) {
        PlanCertificates x = withRows();
        int rows = x.told(5);
        String name = tell(before, number);
        Checks.due(name, Checks.read(x, behind(before, number)), rest.length > 0 ? rows : rows + 1);
        Checks.due(name + " and the rest", Checks.read(x, rest), rows + 1);
        Checks.due("fault(0)", x.fault(0), 0);
    }

    /** The FAULT is told as the number is there: not before it, and not only with the row's last. */
    private void wrong(int[] before, int number, int fault) {
        wrongOf(withRows(), before, number, fault);
    }

    private static void wrongOf(PlanCertificates x, int[] before, int number, int fault) {
        int rows = x.told(5);
        int place = x.told(7) + before.length;
        String name = tell(before, number);
        Checks.due("before " + name, Checks.read(x, before), rows);
        Checks.due(name, Checks.read(x, number), -10 - fault);
        Checks.dueFault(x, fault, rows, place);
        Checks.due("told(7)", x.told(7), place + 1);
        Checks.due("told(5)", x.told(5), rows);
    }

    private static int[] behind(int[] before, int number) {
        int[] all = Arrays.copyOf(before, before.length + 1);
        all[before.length] = number;
        return all;
    }

    private static String tell(int[] before, int number) {
        return number + " behind " + Arrays.toString(before);
    }

    private static int[] row(int... numbers) {
        return numbers;
    }

    /** 2 no such KIND: 0 to 9. */
    private void kinds() {
        int[] wrong = {Integer.MIN_VALUE, -2, -1, 10, 11, Integer.MAX_VALUE};
        for (int kind : wrong) {
            wrong(row(), kind, 2);
        }
        for (int kind = 0; kind <= 9; kind++) {
            Checks.due("KIND " + kind, Checks.read(withRows(), kind), 5);
        }
    }

    /** GIVEN a: RULE a. */
    private void given() {
        bounds(row(0), 0, rules - 1, 3, NO_REST);
    }

    private void upperAndLower() {
        bounds(row(1), 0, variables - 1, 3, NO_REST);
        bounds(row(2), 0, variables - 1, 3, NO_REST);
    }

    /** TABLE a b c (b, c -100 to 100). */
    private void table() {
        bounds(row(3), 0, tables - 1, 4, value -> row(1, 1));
        if (tables > 0) {
            bounds(row(3, 0), -100, 100, 3, value -> row(1));
            bounds(row(3, 0, 1), -100, 100, 3, NO_REST);
            bounds(row(3, tables - 1, 0), -100, 100, 3, NO_REST);
        }
    }

    /** SUM n, then n times (1 to 4) a ROW and how often (1 to 1000). */
    private void sum() {
        bounds(row(4), 1, 4, 3, value -> Arrays.copyOf(row(0, 1, 1, 1, 2, 1, 3, 1), 2 * value));
        right(row(4), 2, row(0, 1, 0, 1));
        right(row(4), 3, row(0, 1, 0, 1, 0, 1));
        int[] before = {4, 4, 0, 1, 0, 1, 0, 1, 0, 1};
        for (int i = 0; i < 4; i++) {
            int[] rest = Arrays.copyOfRange(before, 4 + 2 * i, 10);
            int[] withOften = new int[rest.length + 1];
            System.arraycopy(rest, 0, withOften, 1, rest.length);
            withOften[0] = 1;
            bounds(Arrays.copyOf(before, 2 + 2 * i), 0, 4, 4, value -> withOften);
            bounds(Arrays.copyOf(before, 3 + 2 * i), 1, 1000, 3, value -> rest);
        }
    }

    /** DIVIDE a b: b (2 to 1000). */
    private void divide() {
        bounds(row(5), 0, 4, 4, value -> value == 0 || value == 4 ? row(2) : row(1000));
        bounds(row(5, 1), 2, 1000, 3, NO_REST);
        wrong(row(5, 1), 0, 3);
        wrong(row(5, 1), -2, 3);
    }

    /** BRANCH a b c: b is -1000 to 1000; c = 0 or c = 1. */
    private void branch() {
        bounds(row(6), 0, variables - 1, 3, value -> row(0, 0));
        bounds(row(6, 0), -1000, 1000, 3, value -> row(1));
        bounds(row(6, variables - 1, -1000), 0, 1, 3, NO_REST);
        bounds(row(6, variables - 1, 1000), 0, 1, 3, NO_REST);
    }

    /** JOIN a b c d: each must stand; whether c and d are BRANCHES is seen with the last. */
    private void join() {
        bounds(row(7), 0, 4, 4, value -> row(value, 2, 3));
        bounds(row(7, 0), 0, 4, 4, value -> row(2, 3));
        int[] rows = {Integer.MIN_VALUE, -1, 5, Integer.MAX_VALUE};
        for (int r : rows) {
            wrong(row(7, 0, 0), r, 4);
            wrong(row(7, 0, 0, 2), r, 4);
        }
        for (int r = 0; r < 5; r++) {
            Checks.due("ROW " + r + " as c", Checks.read(withRows(), 7, 0, 0, r), 5);
            Checks.due("ROW " + r + " as d", Checks.read(withRows(), 7, 0, 0, 2, r), r == 3 ? 6 : -16);
        }
    }

    private void better() {
        bounds(row(8), 0, plans - 1, 4, NO_REST);
    }

    private void push() {
        bounds(row(9), 0, 4, 4, value -> row(0));
        bounds(row(9, 0), 0, variables - 1, 3, NO_REST);
    }

    private static void withoutRulesTablesPlans() {
        int[] numbers = {-1, 0, 1, 20};
        for (int number : numbers) {
            wrongOf(plain(), row(0), number, 3);
            wrongOf(plain(), row(3), number, 4);
            wrongOf(plain(), row(8), number, 4);
        }
    }

    private static PlanCertificates plain() {
        PlanCertificates x = Checks.withModel(1, 0, 9, 1, 0, 0);
        Checks.begin(x);
        return x;
    }

    /** 4: no such PLAN or one that is not GOOD. */
    private static void plansThatAreNotGood() {
        // x is 2 to 5, y 2 to 5; x + y <= 9; (x, y) is (2, 2), (5, 4) or (5, 5).
        int[] model = {2, 2, 5, 1, 2, 5, 1, 1, 1, 1, 9, 1, 0, 1, 3, 2, 2, 5, 4, 5, 5};
        int[][] plans = {{2, 2}, {5, 4}, {1, 2}, {6, 4}, {2, 1}, {5, 6}, {5, 5}, {4, 5}};
        for (int plan = 0; plan < plans.length; plan++) {
            PlanCertificates x = Checks.withModel(model);
            for (int[] numbers : plans) {
                Checks.plan(x, numbers);
            }
            Checks.begin(x);
            if (plan < 2) {
                Checks.due("a good plan", Checks.read(x, 8, plan), 1);
                Checks.dueRow(x, 0, plan == 0 ? 3 : 8, 1, 1);
            } else {
                wrongOf(x, row(8), plan, 4);
            }
        }
        // As the number is there: a plan that comes before it counts, one that comes behind does not.
        PlanCertificates x = Checks.withModel(model);
        Checks.begin(x);
        Checks.due("its KIND", Checks.read(x, 8), 0);
        Checks.plan(x, 2, 2);
        Checks.due("a plan that has come since", Checks.read(x, 0, 8), 1);
        Checks.due("the next one lacks", Checks.read(x, 1), -14);
        Checks.plan(x, 5, 4);
        Checks.due("and comes too late", x.read(), -14);
    }

    /** 4 a ROW that does not stand before this one: row 0 itself, too. */
    private static void nothingStandsBeforeTheFirstRow() {
        int[][] before = {{4, 1}, {5}, {7}, {9}};
        int[] numbers = {Integer.MIN_VALUE, -1, 0, 1, Integer.MAX_VALUE};
        for (int[] row : before) {
            for (int number : numbers) {
                wrongOf(plain(), row, number, 4);
            }
        }
    }

    /** Row 199 may be made of rows 0 to 198, not of itself. */
    private static void beforeTheLastRow() {
        int[] last = {0, 197, 198};
        for (int number : last) {
            PlanCertificates x = Fill.begun();
            Fill.rows(x, 199, 1, 0);
            Checks.due("SUM of row " + number, Checks.read(x, 4, 1, number, 1), 200);
        }
        int[] wrong = {-1, 199, 200};
        for (int number : wrong) {
            PlanCertificates x = Fill.begun();
            Fill.rows(x, 199, 1, 0);
            wrongOf(x, row(4, 1), number, 4);
        }
    }
}
