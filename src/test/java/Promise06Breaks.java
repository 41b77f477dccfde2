/** Promise 6: breaks. */
public final class Promise06Breaks {
    public static void main(String[] args) {
        lowAndHigh();
        rightOfARule();
        pairsOfATable();
        theFirstThatIsBroken();
        theLastOfEach();
        greatSums();
        nothingOfAnOlderModel();
        noSuchPlan();
        unknownChangesNothing();
        Checks.finish();
    }

    /** GOOD, if each number is LOW to HIGH. */
    private static void lowAndHigh() {
        for (int v = 0; v < 8; v++) {
            int[] due = {v, -1, -1, -1, v, v, v};
            int[] numbers = {-6, -5, 0, 7, 8, -1000000, 1000000};
            PlanCertificates x = Checks.withModel(eight(0));
            for (int i = 0; i < numbers.length; i++) {
                int[] plan = new int[8];
                plan[v] = numbers[i];
                Checks.plan(x, plan);
                Checks.due(numbers[i] + " of " + v, x.breaks(i), due[i]);
            }
        }
        PlanCertificates x = Checks.withModel(1, 4, 4, 0, 0, 0);
        Checks.plan(x, 3);
        Checks.plan(x, 4);
        Checks.plan(x, 5);
        Checks.due("below the only number", x.breaks(0), 0);
        Checks.due("the only number", x.breaks(1), -1);
        Checks.due("above the only number", x.breaks(2), 0);
    }

    /** Eight variables of -5 to 7, and so many rules: variable 0 is at most 6. */
    private static int[] eight(int rules) {
        int[] m = new int[27 + 9 * rules];
        m[0] = 8;
        for (int v = 0; v < 8; v++) {
            m[1 + 3 * v] = -5;
            m[2 + 3 * v] = 7;
        }
        m[25] = rules;
        for (int r = 0; r < rules; r++) {
            m[26 + 9 * r] = 1;
            m[26 + 9 * r + 8] = 6;
        }
        return m;
    }

    /** Of each RULE the sum of FACTORS times numbers is at most RIGHT. */
    private static void rightOfARule() {
        PlanCertificates x = Checks.withModel(2, -9, 9, 0, -9, 9, 0, 2, 2, -3, 5, 0, -1, 8, 0);
        int[][] plans = {{-1, -2}, {1, -1}, {3, 0}, {9, 5}, {9, 4}, {-9, -8}, {-9, -9}, {2, 1}};
        // 2x - 3y: 4, 5, 6, 3, 6, 6, 9, 1; -y: at most 8.
        int[] due = {-1, -1, 100, -1, 100, 100, 100, -1};
        for (int i = 0; i < plans.length; i++) {
            Checks.plan(x, plans[i]);
            Checks.due("plan " + i, x.breaks(i), due[i]);
        }
        x = Checks.withModel(2, -9, 9, 0, -9, 9, 0, 2, 2, 0, 18, 0, -1, 8, 0);
        Checks.plan(x, 9, -8);
        Checks.plan(x, 9, -9);
        Checks.due("both rules at their bounds", x.breaks(0), -1);
        Checks.due("one more", x.breaks(1), 101);
        x = Checks.withModel(1, -9, 9, 0, 1, 0, -1, 0);
        Checks.plan(x, 0);
        Checks.due("0 <= -1", x.breaks(0), 100);
        x = Checks.withModel(1, -9, 9, 0, 1, 0, 0, 0);
        Checks.plan(x, 9);
        Checks.due("0 <= 0", x.breaks(0), -1);
    }

    /** Of each TABLE the numbers of a and b are one of its PAIRS. */
    private static void pairsOfATable() {
        // Table 0 is of (2, 0): (1, 5), (3, 3), (1000, -1000).
        int[] m = {3, -1000, 1000, 0, -1000, 1000, 0, -1000, 1000, 0, 0, 1, 2, 0, 3, 1, 5, 3, 3, 1000, -1000};
        PlanCertificates x = Checks.withModel(m);
        int[][] plans = {{5, 77, 1}, {3, 0, 3}, {-1000, 0, 1000}, {1, 77, 5}, {5, 0, 3}, {3, 0, 1}, {5, 0, 2}, {4, 0, 1}};
        int[] due = {-1, -1, -1, 200, 200, 200, 200, 200};
        for (int i = 0; i < plans.length; i++) {
            Checks.plan(x, plans[i]);
            Checks.due("plan " + i, x.breaks(i), due[i]);
        }
        // One pair, and twenty of them: the first and the last count.
        x = Checks.withModel(2, 0, 99, 0, 0, 99, 0, 0, 1, 0, 1, 1, 0, 1);
        Checks.plan(x, 0, 1);
        Checks.plan(x, 0, 0);
        Checks.due("the only pair", x.breaks(0), -1);
        Checks.due("another", x.breaks(1), 200);
        int[] twenty = new int[12 + 40];
        System.arraycopy(new int[] {2, 0, 99, 0, 0, 99, 0, 0, 1, 1, 0, 20}, 0, twenty, 0, 12);
        for (int p = 0; p < 20; p++) {
            twenty[12 + 2 * p] = 10 + p;
            twenty[13 + 2 * p] = 50 + p;
        }
        x = Checks.withModel(twenty);
        Checks.plan(x, 50, 10);
        Checks.plan(x, 69, 29);
        Checks.plan(x, 70, 30);
        Checks.plan(x, 49, 9);
        Checks.plan(x, 69, 28);
        Checks.due("the first pair", x.breaks(0), -1);
        Checks.due("the twentieth", x.breaks(1), -1);
        Checks.due("behind it", x.breaks(2), 200);
        Checks.due("before the first", x.breaks(3), 200);
        Checks.due("of two pairs", x.breaks(4), 200);
    }

    private static void theFirstThatIsBroken() {
        // x and y are 0 to 5; x <= 3; y <= 3; (x, y) is (1, 1); (y, x) is (2, 1).
        PlanCertificates x = Checks.withModel(2, 0, 5, 0, 0, 5, 0, 2, 1, 0, 3, 0, 1, 3,
                2, 0, 1, 1, 1, 1, 1, 0, 1, 2, 1);
        int[][] plans = {{6, 6}, {5, 6}, {5, 5}, {3, 5}, {3, 3}, {1, 1}, {1, 2}, {-1, 0}};
        int[] due = {0, 1, 100, 101, 200, 201, 200, 0};
        for (int i = 0; i < plans.length; i++) {
            Checks.plan(x, plans[i]);
            Checks.due("plan " + i, x.breaks(i), due[i]);
        }
    }

    /** VARIABLE 7, RULE 19 and TABLE 3. */
    private static void theLastOfEach() {
        int[] m = eight(20);
        for (int r = 0; r < 20; r++) {
            m[26 + 9 * r + 8] = r == 19 ? 6 : 7;
        }
        PlanCertificates x = Checks.withModel(m);
        Checks.plan(x, 7, 0, 0, 0, 0, 0, 0, 0);
        Checks.plan(x, 6, 0, 0, 0, 0, 0, 0, 0);
        Checks.plan(x, 7, 0, 0, 0, 0, 0, 0, 8);
        Checks.due("the last rule", x.breaks(0), 119);
        Checks.due("none", x.breaks(1), -1);
        Checks.due("the last variable", x.breaks(2), 7);
        x = Checks.withModel(2, 0, 9, 0, 0, 9, 0, 0, 4, 0, 1, 2, 1, 1, 2, 2, 0, 1, 2, 1, 1, 2, 2,
                1, 0, 2, 1, 1, 2, 2, 0, 1, 2, 2, 2, 1, 3);
        Checks.plan(x, 1, 1);
        Checks.plan(x, 2, 2);
        Checks.due("the last table", x.breaks(0), 203);
        Checks.due("none", x.breaks(1), -1);
    }

    /** FACTORS of 100 and numbers of a million: GOOD or not, a sum never goes round. */
    private static void greatSums() {
        int[] m = eight(2);
        for (int v = 0; v < 8; v++) {
            m[26 + v] = 100;
            m[35 + v] = -100;
        }
        m[34] = 100000;
        m[43] = 100000;
        PlanCertificates x = Checks.withModel(m);
        int most = 1000000;
        Checks.plan(x, most, most, most, most, most, most, most, most);
        Checks.due("breaks(0)", x.breaks(0), 0);
        Checks.plan(x, 7, 7, 7, 7, 7, 7, 7, 7);
        Checks.due("breaks(1)", x.breaks(1), -1);
        Checks.plan(x, -5, -5, -5, -5, -5, -5, -5, most);
        Checks.due("breaks(2)", x.breaks(2), 7);
    }

    /** RULES, TABLES, PAIRS and bounds of models before, refused ones too, count for nothing. */
    private static void nothingOfAnOlderModel() {
        PlanCertificates x = new PlanCertificates();
        for (int i = 0; i < 3; i++) {
            Checks.put(x, 2, 0, 9, 1, 0, 9, 1, 2, 0, 0, -5, 0, 0, -5,
                    2, 0, 1, 3, 9, 9, 8, 8, 7, 7, 1, 0, 2, 9, 9, 8, 8);
            Checks.due("two rules that nothing keeps", x.model(), 1);
            Checks.plan(x, 9, 9);
            Checks.due("breaks(0)", x.breaks(0), 100);
        }
        for (int i = 0; i < 3; i++) {
            Checks.put(x, 2, 0, 9, 1, 0, 9, 1, 0, 1, 0, 1, 1, 9, 9);
            Checks.due("no rule, one pair", x.model(), 1);
            Checks.plan(x, 9, 9);
            Checks.plan(x, 8, 8);
            Checks.due("the pair", x.breaks(0), -1);
            Checks.due("an older pair", x.breaks(1), 200);
        }
        for (int i = 0; i < 3; i++) {
            Checks.put(x, 1, 0, 9, 1, 1, 0, 0, 0);
            Checks.due("one variable, one rule that all keep", x.model(), 1);
            Checks.plan(x, 8);
            Checks.due("breaks(0)", x.breaks(0), -1);
            Checks.put(x, 1, 0, 0, 0, 1, 0, -1, 9);
            Checks.due("a refused model", x.model(), -17);
            Checks.due("breaks(0) behind it", x.breaks(0), -1);
        }
    }

    private static void noSuchPlan() {
        Checks.due("without a model", new PlanCertificates().breaks(0), PlanCertificates.UNKNOWN);
        PlanCertificates x = Checks.withModel(1, 0, 9, 0, 0, 0);
        Checks.due("without plans", x.breaks(0), PlanCertificates.UNKNOWN);
        for (int count = 1; count <= 8; count++) {
            Checks.plan(x, 0);
            Checks.due("the last of " + count, x.breaks(count - 1), -1);
            Checks.due("behind the last of " + count, x.breaks(count), PlanCertificates.UNKNOWN);
        }
        int[] wrong = {Integer.MIN_VALUE, -1, 8, 9, Integer.MAX_VALUE};
        for (int plan : wrong) {
            Checks.due("breaks(" + plan + ")", x.breaks(plan), PlanCertificates.UNKNOWN);
        }
        Checks.plan(x, 0);
        Checks.due("the ninth was refused", x.breaks(8), PlanCertificates.UNKNOWN);
        Checks.put(x, 1, 0, 9, 0, 0, 0);
        x.model();
        Checks.due("of another model", x.breaks(0), PlanCertificates.UNKNOWN);
    }

    private static void unknownChangesNothing() {
        int[] wrong = {-1, 8};
        for (int plan : wrong) {
            Twins.unchanged("breaks(" + plan + ")",
                    x -> Checks.due("breaks(" + plan + ")", x.breaks(plan), PlanCertificates.UNKNOWN));
        }
    }
}
