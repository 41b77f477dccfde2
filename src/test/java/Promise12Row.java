/** Promise 12: row. */
public final class Promise12Row {
    public static void main(String[] args) {
        factorsOfVariablesThatAre();
        whatBeyond();
        noSuchRow();
        rowsThatDoNotStand();
        throwingChangesNothing();
        assumptionsOfEach();
        limitOfZero();
        leastLimit();
        givenUpperLower();
        divideRoundsDown();
        pushRoundsDown();
        tableTakesTheGreatest();
        branchAtTheBounds();
        joinTakesTheGreaterRight();
        kinds();
        needs();
        needsOfTheLastRow();
        Checks.finish();
    }

    /** So many variables of 0 to 9, which cost 1; rule 0 has FACTORS 1, 2, 3 .. and RIGHT 5; it is row 0. */
    private static PlanCertificates withVariables(int variables) {
        int[] m = new int[4 * variables + 4];
        m[0] = variables;
        for (int v = 0; v < variables; v++) {
            m[2 + 3 * v] = 9;
            m[3 + 3 * v] = 1;
            m[2 + 3 * variables + v] = v + 1;
        }
        m[1 + 3 * variables] = 1;
        m[2 + 4 * variables] = 5;
        PlanCertificates x = Checks.withModel(m);
        Checks.begin(x);
        Checks.due("row 0", Checks.read(x, 0, 0), 1);
        return x;
    }

    /** FACTOR of VARIABLE what (0 to V - 1); V to 7 is no such what. */
    private static void factorsOfVariablesThatAre() {
        for (int variables = 1; variables <= 8; variables++) {
            PlanCertificates x = withVariables(variables);
            for (int what = 0; what < variables; what++) {
                Checks.due("row(0, " + what + ") of " + variables, Checks.row(x, 0, what), what + 1);
            }
            for (int what = variables; what < 8; what++) {
                Checks.due("row(0, " + what + ") of " + variables, Checks.row(x, 0, what), Checks.THROWS_INDEX);
            }
            Checks.due("row(0, 8)", Checks.row(x, 0, 8), 5);
        }
    }

    private static void whatBeyond() {
        int[] wrong = {Integer.MIN_VALUE, -2, -1, 14, 15, Integer.MAX_VALUE};
        PlanCertificates x = withVariables(8);
        for (int what : wrong) {
            Checks.due("row(0, " + what + ")", Checks.row(x, 0, what), Checks.THROWS_INDEX);
        }
        long[] due = {5, 0, 0, 0, 0, 1};
        for (int what = 8; what <= 13; what++) {
            Checks.due("row(0, " + what + ")", Checks.row(x, 0, what), due[what - 8]);
        }
    }

    private static void noSuchRow() {
        int[] wrong = {Integer.MIN_VALUE, -2, -1, 1, 2, 200, Integer.MAX_VALUE};
        PlanCertificates x = withVariables(2);
        for (int row : wrong) {
            for (int what = -1; what <= 14; what++) {
                Checks.due("row(" + row + ", " + what + ")", Checks.row(x, row, what), Checks.THROWS_INDEX);
            }
        }
        x = Fill.begun();
        Fill.rows(x, 200, 1, 1);
        Checks.due("row(199, 8)", Checks.row(x, 199, 8), 9);
        Checks.due("row(200, 8)", Checks.row(x, 200, 8), Checks.THROWS_INDEX);
        Checks.read(x, 1);
        Checks.due("row(200, 8) behind too many", Checks.row(x, 200, 8), Checks.THROWS_INDEX);
    }

    /** A row that is not whole, one that a FAULT stopped, one of an older certificate: none of them stands. */
    private static void rowsThatDoNotStand() {
        PlanCertificates x = Checks.withModel(Fill.MODEL);
        Checks.due("without a certificate", Checks.row(x, 0, 8), Checks.THROWS_INDEX);
        Checks.begin(x);
        Checks.due("without rows", Checks.row(x, 0, 8), Checks.THROWS_INDEX);
        Checks.read(x, 1);
        Checks.due("in the midst of it", Checks.row(x, 0, 8), Checks.THROWS_INDEX);
        Checks.read(x, 1);
        Checks.due("at its end", Checks.row(x, 0, 8), 9);
        Checks.read(x, 5, 0, 2);
        Checks.due("fault(0)", x.fault(0), 5);
        Checks.due("the one that was stopped", Checks.row(x, 1, 8), Checks.THROWS_INDEX);
        Checks.due("the one that stays", Checks.row(x, 0, 8), 9);
        x.begin();
        Checks.due("of an older one", Checks.row(x, 0, 8), Checks.THROWS_INDEX);
    }

    private static void throwingChangesNothing() {
        int[][] wrong = {{-1, 8}, {200, 13}, {0, 14}, {0, -1}, {0, 7}};
        for (int[] call : wrong) {
            Twins.unchanged("row(" + call[0] + ", " + call[1] + ")",
                    x -> Checks.due("row()", Checks.row(x, call[0], call[1]), Checks.THROWS_INDEX));
        }
    }

    /** 9 how many ASSUMPTIONS: 0 to 60. */
    private static void assumptionsOfEach() {
        PlanCertificates x = Fill.begun();
        Fill.branches(x, 60);
        Checks.due("of a BRANCH", Checks.row(x, 0, 9), 1);
        Checks.due("of the 60th", Checks.row(x, 59, 9), 1);
        int last = 0;
        for (int b = 1; b < 60; b += 3) {
            int third = b + 2 < 60 ? b + 2 : b;
            Checks.read(x, 4, 4, last, 1, b, 1, b + 1, 1, third, 1);
            last = x.told(5) - 1;
        }
        Checks.due("of all", Checks.row(x, last, 9), 60);
        Checks.due("fault(0)", x.fault(0), 0);
        Checks.read(x, 1, 0);
        Checks.due("of none", Checks.row(x, last + 1, 9), 0);
    }

    /** 10 whether it has a LIMIT (1, 0), 11 that (0 without): one of 0 is one too. */
    private static void limitOfZero() {
        PlanCertificates x = Checks.withModel(1, -5, 5, 1, 0, 0);
        int[] costs = {0, 1, -1, 5, -5};
        for (int cost : costs) {
            Checks.plan(x, cost);
        }
        Checks.begin(x);
        for (int plan = 0; plan < costs.length; plan++) {
            Checks.read(x, 8, plan);
            Checks.due("10", Checks.row(x, plan, 10), 1);
            Checks.due("11", Checks.row(x, plan, 11), costs[plan]);
            Checks.dueRow(x, plan, costs[plan] - 1, 1);
        }
        Checks.read(x, 1, 0);
        Checks.due("10 without", Checks.row(x, 5, 10), 0);
        Checks.due("11 without", Checks.row(x, 5, 11), 0);
    }

    /** The least of their LIMITS, if any has one. */
    private static void leastLimit() {
        PlanCertificates x = Checks.withModel(1, -5, 5, 1, 0, 0);
        Checks.plan(x, 0);
        Checks.plan(x, 1);
        Checks.plan(x, -1);
        Checks.begin(x);
        // 0: limit 0, 1: limit 1, 2: limit -1, 3: none, 4 and 5: branches.
        Checks.read(x, 8, 0, 8, 1, 8, 2, 1, 0, 6, 0, 0, 0, 6, 0, 0, 1);
        int[][] rows = {{4, 2, 0, 1, 1, 1}, {4, 2, 1, 1, 0, 1}, {4, 2, 3, 1, 0, 1}, {4, 2, 0, 1, 3, 1},
            {4, 4, 1, 1, 0, 1, 2, 1, 3, 1}, {4, 2, 3, 1, 3, 1}, {7, 0, 1, 4, 5}, {7, 1, 0, 4, 5}, {7, 3, 0, 4, 5},
            {7, 0, 3, 4, 5}, {7, 2, 1, 4, 5}, {7, 3, 3, 4, 5}, {9, 0, 0}, {9, 3, 0}, {4, 1, 0, 2}, {5, 20, 2}};
        int[] has = {1, 1, 1, 1, 1, 0, 1, 1, 1, 1, 1, 0, 1, 0, 1, 1};
        int[] limits = {0, 0, 0, 0, -1, 0, 0, 0, 0, 0, -1, 0, 0, 0, 0, 0};
        for (int i = 0; i < rows.length; i++) {
            Checks.due("row", Checks.read(x, rows[i]), 7 + i);
            Checks.due("row(" + (6 + i) + ", 10)", Checks.row(x, 6 + i, 10), has[i]);
            Checks.due("row(" + (6 + i) + ", 11)", Checks.row(x, 6 + i, 11), limits[i]);
        }
    }

    /** RULE a; VARIABLE a is at most HIGH; less VARIABLE a is at most less LOW. */
    private static void givenUpperLower() {
        int[] low = {-1000, -999, -1, 0, 1, 2, 999, 1000};
        int[] high = {-1000, -5, 0, 0, 3, 7, 1000, 1000};
        int[] m = new int[27 + 18];
        m[0] = 8;
        m[25] = 2;
        for (int v = 0; v < 8; v++) {
            m[1 + 3 * v] = low[v];
            m[2 + 3 * v] = high[v];
            m[26 + v] = 100 - v;
            m[35 + v] = v - 100;
        }
        m[34] = 100000;
        m[43] = -100000;
        PlanCertificates x = Checks.withModel(m);
        Checks.begin(x);
        Checks.read(x, 0, 0, 0, 1);
        Checks.dueRow(x, 0, 100000, 100, 99, 98, 97, 96, 95, 94, 93);
        Checks.dueRow(x, 1, -100000, -100, -99, -98, -97, -96, -95, -94, -93);
        for (int v = 0; v < 8; v++) {
            long[] one = new long[8];
            one[v] = 1;
            Checks.read(x, 1, v, 2, v);
            Checks.dueRow(x, 2 + 2 * v, high[v], one);
            one[v] = -1;
            Checks.dueRow(x, 3 + 2 * v, -low[v], one);
        }
    }

    /** RIGHT too, rounded down: below 0 away from 0. */
    private static void divideRoundsDown() {
        int[] rights = {-7, -6, -5, -4, -3, -2, -1, 0, 1, 2, 3, 4, 5, 6, 7};
        int[] due = {-3, -2, -2, -2, -1, -1, -1, 0, 0, 0, 1, 1, 1, 2, 2};
        for (int i = 0; i < rights.length; i++) {
            PlanCertificates x = Checks.withModel(2, 0, 9, 0, 0, 9, 0, 1, 3, -6, rights[i], 0);
            Checks.begin(x);
            Checks.read(x, 0, 0, 5, 0, 3);
            Checks.dueRow(x, 1, due[i], 1, -2);
        }
        PlanCertificates x = Checks.withModel(1, 0, 9, 0, 1, 0, -1, 0);
        Checks.begin(x);
        Checks.read(x, 0, 0, 5, 0, 1000, 5, 0, 2);
        Checks.dueRow(x, 1, -1, 0);
        Checks.dueRow(x, 2, -1, 0);
    }

    /** r / f (f above 0), or r / -f (f below 0), rounded down. */
    private static void pushRoundsDown() {
        int[] rights = {-4, -3, -2, -1, 0, 1, 2, 3, 4};
        int[] due = {-2, -1, -1, -1, 0, 0, 0, 1, 1};
        int[] signs = {1, -1};
        for (int sign : signs) {
            for (int i = 0; i < rights.length; i++) {
                PlanCertificates x = Checks.withModel(1, -9, 9, 0, 1, 3 * sign, rights[i], 0);
                Checks.begin(x);
                Checks.read(x, 0, 0, 9, 0, 0);
                Checks.dueRow(x, 1, due[i], sign);
            }
        }
        // The least of each other VARIABLE: LOW where its FACTOR is above 0, HIGH where it is below.
        PlanCertificates x = Checks.withModel(4, -3, 5, 0, -2, 4, 0, 1, 7, 0, 6, 6, 0, 1, 1, 2, -3, 10, 100, 0);
        Checks.begin(x);
        Checks.read(x, 0, 0, 9, 0, 0, 9, 0, 1, 9, 0, 2, 9, 0, 3);
        Checks.dueRow(x, 1, 100 + 4 + 21 - 60, 1, 0, 0, 0);
        Checks.dueRow(x, 2, (100 + 3 + 21 - 60) / 2, 0, 1, 0, 0);
        Checks.dueRow(x, 3, (100 + 3 + 4 - 60) / 3, 0, 0, -1, 0);
        Checks.dueRow(x, 4, (100 + 3 + 4 + 21) / 10, 0, 0, 0, 1);
    }

    /** At most the greatest that its PAIRS have; of one VARIABLE alone where the other one's is 0. */
    private static void tableTakesTheGreatest() {
        // (y, x) is (3, -1000), (-1000, 7) or (1000, 999).
        PlanCertificates x = Checks.withModel(2, 0, 9, 0, 0, 9, 0, 0, 1, 1, 0, 3, 3, -1000, -1000, 7, 1000, 999);
        Checks.begin(x);
        Checks.read(x, 3, 0, 1, 0, 3, 0, 0, 1, 3, 0, -1, 0, 3, 0, 0, -1, 3, 0, 0, 0, 3, 0, 100, 100);
        Checks.read(x, 3, 0, -100, 100, 3, 0, 1, -1, 3, 0, -100, -100);
        Checks.dueRow(x, 0, 1000, 0, 1);
        Checks.dueRow(x, 1, 999, 1, 0);
        Checks.dueRow(x, 2, 1000, 0, -1);
        Checks.dueRow(x, 3, 1000, -1, 0);
        Checks.dueRow(x, 4, 0, 0, 0);
        Checks.dueRow(x, 5, 199900, 100, 100);
        Checks.dueRow(x, 6, 100700, 100, -100);
        Checks.dueRow(x, 7, 1003, -1, 1);
        Checks.dueRow(x, 8, 99700, -100, -100);
        // One pair: the greatest may be below 0.
        x = Checks.withModel(2, 0, 9, 0, 0, 9, 0, 0, 1, 0, 1, 1, -1000, -1000);
        Checks.begin(x);
        Checks.read(x, 3, 0, 100, 100, 3, 0, -100, -100);
        Checks.dueRow(x, 0, -200000, 100, 100);
        Checks.dueRow(x, 1, 200000, -100, -100);
    }

    /** VARIABLE a is at most b (c = 0), or less VARIABLE a is at most less b less 1 (c = 1). */
    private static void branchAtTheBounds() {
        int[] bounds = {-1000, -1, 0, 1, 1000};
        PlanCertificates x = withVariables(2);
        for (int i = 0; i < bounds.length; i++) {
            Checks.read(x, 6, 1, bounds[i], 0, 6, 1, bounds[i], 1);
            Checks.dueRow(x, 1 + 2 * i, bounds[i], 0, 1);
            Checks.dueRow(x, 2 + 2 * i, -bounds[i] - 1, 0, -1);
        }
    }

    private static void joinTakesTheGreaterRight() {
        PlanCertificates x = Checks.withModel(1, 0, 9, 0, 5, 1, 3, 1, 4, 0, -2, 0, -1, 0, 0, 0);
        Checks.begin(x);
        // 0: x <= 3, 1: x <= 4, 2: 0 <= -2, 3: 0 <= -1, 4: 0 <= 0, 5 and 6: branches.
        Checks.read(x, 0, 0, 0, 1, 0, 2, 0, 3, 0, 4, 6, 0, 0, 0, 6, 0, 0, 1);
        int[][] pairs = {{0, 1}, {1, 0}, {0, 0}, {2, 3}, {3, 2}, {3, 4}, {4, 3}, {2, 1}, {0, 3}};
        int[][] due = {{4, 1}, {4, 1}, {3, 1}, {-1, 0}, {-1, 0}, {0, 0}, {0, 0}, {4, 1}, {3, 1}};
        for (int i = 0; i < pairs.length; i++) {
            Checks.read(x, 7, pairs[i][0], pairs[i][1], 5, 6);
            Checks.dueRow(x, 7 + i, due[i][0], due[i][1]);
        }
    }

    /** 12 KIND. */
    private static void kinds() {
        PlanCertificates x = Fill.begun();
        Checks.read(x, x.digest(), 0, 0, 1, 0, 2, 0, 3, 0, 1, 1, 4, 1, 0, 2, 5, 0, 2, 6, 0, 0, 0);
        Checks.read(x, 6, 0, 0, 1, 7, 0, 0, 6, 7, 8, 0, 9, 1, 0);
        int[] due = {0, 1, 2, 3, 4, 5, 6, 6, 7, 8, 9};
        for (int row = 0; row < due.length; row++) {
            Checks.due("row(" + row + ", 12)", Checks.row(x, row, 12), due[row]);
        }
    }

    /** 13: itself, those that it is made of (of JOIN all four), those that they need, each once. */
    private static void needs() {
        PlanCertificates x = Fill.begun();
        Checks.read(x, x.digest(), 1, 0, 6, 0, 0, 0, 6, 0, 0, 1, 1, 0, 7, 0, 3, 1, 2, 7, 0, 0, 1, 2);
        Checks.due("of JOIN all four", Checks.row(x, 4, 13), 5);
        Checks.due("of JOIN of a row with itself", Checks.row(x, 5, 13), 4);
        Checks.read(x, 7, 1, 1, 1, 2, 4, 4, 4, 1, 5, 1, 4, 1, 0, 1, 9, 7, 0, 5, 8, 2);
        Checks.due("of JOIN of its own BRANCH", Checks.row(x, 6, 13), 3);
        Checks.due("of SUM, each once", Checks.row(x, 7, 13), 7);
        Checks.due("of PUSH", Checks.row(x, 8, 13), 8);
        Checks.due("fault(0): -x is not divided by 2", x.fault(0), 5);
        int[] plain = {0, 1, 2, 3};
        for (int row : plain) {
            Checks.due("itself alone", Checks.row(x, row, 13), 1);
        }
        // The numbers of a TABLE, a PLAN, a VARIABLE, how often are no ROWS.
        x = Fill.begun();
        Checks.read(x, x.digest(), 1, 0, 1, 1, 3, 0, 1, 0, 8, 0, 1, 1, 6, 1, 0, 1, 4, 1, 2, 1, 9, 1, 1, 2, 0);
        int[] due = {1, 1, 1, 1, 1, 1, 2, 2, 1};
        for (int row = 0; row < due.length; row++) {
            Checks.due("row(" + row + ", 13)", Checks.row(x, row, 13), due[row]);
        }
    }

    private static void needsOfTheLastRow() {
        PlanCertificates x = Fill.begun();
        int[] numbers = new int[3 + 4 * 199];
        numbers[0] = x.digest();
        numbers[1] = 2;
        for (int row = 1; row < 200; row++) {
            numbers[4 * row - 1] = 4;
            numbers[4 * row] = 1;
            numbers[4 * row + 1] = row - 1;
            numbers[4 * row + 2] = 1;
        }
        Checks.due("a chain", Fill.inTapes(x, numbers), 200);
        Checks.due("row(199, 13)", Checks.row(x, 199, 13), 200);
        Checks.due("row(198, 13)", Checks.row(x, 198, 13), 199);
        Checks.due("row(0, 13)", Checks.row(x, 0, 13), 1);
    }
}
