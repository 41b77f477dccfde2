import java.util.Arrays;

/** Promise 10: read. The FAULTS that show with a row's last number, those of too many, and their order. */
public final class Promise10ReadFaults {
    private static final long MOST = 1000000000000L;

    public static void main(String[] args) {
        anotherDigest();
        factorsThatAreNotDivided();
        factorThatIsNotPushed();
        noSuchBranches();
        branchesToldAgain();
        notAlike();
        alikeByAnImpossibleOne();
        factorAtTheBound();
        rightAtTheBound();
        eachFactorCounts();
        sumsOnTheWay();
        pushedRightAtTheBound();
        fiveAheadOfEight();
        the1501stNumber();
        the1501stAheadOfAllOthers();
        the201stRow();
        the61stBranch();
        tooManyRowsBehindNoSuchKind();
        Checks.finish();
    }

    /** Up to its last number a row has no FAULT; then it has this one, or stands (0). */
    private static void atLast(PlanCertificates x, int fault, int... row) {
        int rows = x.told(5);
        int place = x.told(7) + row.length - 1;
        String name = Arrays.toString(row);
        Checks.due("before the last of " + name, Checks.read(x, Arrays.copyOf(row, row.length - 1)), rows);
        Checks.due("the last of " + name, Checks.read(x, row[row.length - 1]), fault == 0 ? rows + 1 : -10 - fault);
        if (fault == 0) {
            Checks.dueFault(x, 0, -1, -1);
        } else {
            Checks.dueFault(x, fault, rows, place);
            Checks.due("told(5)", x.told(5), rows);
            Checks.due("told(7)", x.told(7), place + 1);
        }
    }

    /** 1 another DIGEST: the first number alone is compared. */
    private static void anotherDigest() {
        int[] changes = {-1, 1, 2, Integer.MIN_VALUE};
        for (int change : changes) {
            PlanCertificates x = Fill.begun();
            int wrong = x.digest() + change;
            Checks.due("another DIGEST", Checks.read(x, wrong), -11);
            Checks.dueFault(x, 1, PlanCertificates.NONE, 0);
            Checks.dueNumbers(x, wrong);
        }
        PlanCertificates x = Fill.begun();
        Checks.due("the DIGEST", Checks.read(x, x.digest()), 0);
        Checks.dueFault(x, 0, -1, -1);
        Checks.due("the DIGEST again is a KIND", Checks.read(x, x.digest()), -12);
        Checks.dueFault(x, 2, 0, 1);
    }

    /** Eight variables of 0 to 9; the rule has these FACTORS, and this RIGHT; it is row 0. */
    private static PlanCertificates eight(int right, int... factors) {
        int[] m = new int[27 + 9];
        m[0] = 8;
        for (int v = 0; v < 8; v++) {
            m[2 + 3 * v] = 9;
        }
        m[25] = 1;
        System.arraycopy(factors, 0, m, 26, factors.length);
        m[34] = right;
        PlanCertificates x = Checks.withModel(m);
        Checks.begin(x);
        Checks.due("row 0", Checks.read(x, 0, 0), 1);
        return x;
    }

    /** 5 a FACTOR that b does not divide. */
    private static void factorsThatAreNotDivided() {
        int[] wrong = {-5, -4, -2, -1, 1, 2, 4, 5, 100};
        int[] right = {-99, -6, -3, 0, 3, 6, 99};
        for (int v = 0; v < 8; v++) {
            int[] factors = new int[8];
            for (int factor : wrong) {
                factors[v] = factor;
                atLast(eight(3, factors), 5, 5, 0, 3);
            }
            for (int factor : right) {
                factors[v] = factor;
                PlanCertificates x = eight(3, factors);
                atLast(x, 0, 5, 0, 3);
                Checks.due("row(1, " + v + ")", Checks.row(x, 1, v), factor / 3);
            }
        }
        // RIGHT need not be divided.
        atLast(eight(4, 3), 0, 5, 0, 3);
        atLast(eight(-4, 3), 0, 5, 0, 3);
        // FACTORS of 0 are divided by all: 2 and 1000 too.
        atLast(eight(1), 0, 5, 0, 2);
        atLast(eight(1), 0, 5, 0, 1000);
        atLast(eight(1, 100), 5, 5, 0, 1000);
        PlanCertificates x = eight(1, 1);
        Checks.read(x, 4, 1, 0, 1000, 4, 1, 0, 999);
        atLast(x, 0, 5, 1, 1000);
        atLast(x, 0, 5, 2, 999);
        atLast(x, 5, 5, 2, 1000);
    }

    /** 5 a FACTOR that is 0 (PUSH). */
    private static void factorThatIsNotPushed() {
        for (int v = 0; v < 8; v++) {
            int[] factors = {1, 1, 1, 1, 1, 1, 1, 1};
            factors[v] = 0;
            atLast(eight(3, factors), 5, 9, 0, v);
            factors[v] = -1;
            atLast(eight(3, factors), 0, 9, 0, v);
            factors[v] = 1;
            atLast(eight(3, factors), 0, 9, 0, v);
        }
    }

    /** Rows 0: x <= 9, 1: x <= 4 or 2: not (branches), 3: x <= 4 by a rule, 4: -x <= -5 by a rule. */
    private static PlanCertificates withBranches() {
        PlanCertificates x = Checks.withModel(2, 0, 9, 1, 0, 9, 1, 2, 1, 0, 4, -1, 0, -5, 0);
        Checks.begin(x);
        Checks.due("five rows", Checks.read(x, 1, 0, 6, 0, 4, 0, 6, 0, 4, 1, 0, 0, 0, 1), 5);
        return x;
    }

    /** 6 c and d are no such BRANCHES: of the same VARIABLE and b, c with 0, d with 1. */
    private static void noSuchBranches() {
        int[][] wrong = {{2, 1}, {1, 1}, {2, 2}, {1, 0}, {0, 2}, {0, 0}, {3, 2}, {1, 4}, {3, 4}, {4, 3}};
        for (int[] pair : wrong) {
            atLast(withBranches(), 6, 7, 0, 0, pair[0], pair[1]);
        }
        atLast(withBranches(), 0, 7, 0, 0, 1, 2);
        int[][] others = {{6, 0, 5, 1}, {6, 0, 3, 1}, {6, 0, -4, 1}, {6, 1, 4, 1}, {6, 0, 4, 0}};
        for (int[] other : others) {
            PlanCertificates x = withBranches();
            Checks.due("another BRANCH", Checks.read(x, other), 6);
            atLast(x, 6, 7, 0, 0, 1, 5);
        }
        int[][] firsts = {{6, 0, 5, 0}, {6, 0, 3, 0}, {6, 1, 4, 0}, {6, 0, 4, 1}};
        for (int[] other : firsts) {
            PlanCertificates x = withBranches();
            Checks.due("another BRANCH", Checks.read(x, other), 6);
            atLast(x, 6, 7, 0, 0, 5, 2);
        }
        int[] bounds = {-1000, 0, 1000};
        for (int b : bounds) {
            PlanCertificates x = withBranches();
            Checks.read(x, 6, 1, b, 1, 6, 1, b, 0);
            atLast(x, 0, 7, 0, 0, 6, 5);
            atLast(x, 6, 7, 0, 0, 5, 6);
        }
        // A SUM of one BRANCH says the same and is none.
        PlanCertificates x = withBranches();
        Checks.read(x, 4, 1, 1, 1, 4, 1, 2, 1);
        Checks.dueRow(x, 5, 4, 1, 0);
        atLast(x, 6, 7, 0, 0, 5, 2);
        x = withBranches();
        Checks.read(x, 4, 1, 1, 1, 4, 1, 2, 1);
        atLast(x, 6, 7, 0, 0, 1, 6);
    }

    /** Two BRANCHES that say the same are each an ASSUMPTION of its own. */
    private static void branchesToldAgain() {
        PlanCertificates x = withBranches();
        Checks.read(x, 6, 0, 4, 0);
        atLast(x, 0, 7, 1, 1, 5, 2);
        Checks.dueAssumptions(x, 6, 1);
        atLast(x, 0, 7, 5, 5, 5, 2);
        Checks.dueAssumptions(x, 7, 5);
    }

    /** 7 a and b are not alike: FACTORS that are not the same, and none IMPOSSIBLE. */
    private static void notAlike() {
        atLast(withBranches(), 7, 7, 0, 4, 1, 2);
        atLast(withBranches(), 7, 7, 4, 0, 1, 2);
        atLast(withBranches(), 0, 7, 0, 3, 1, 2);
        atLast(withBranches(), 0, 7, 3, 0, 1, 2);
        for (int v = 0; v < 8; v++) {
            PlanCertificates x = eight(0, 1, 1, 1, 1, 1, 1, 1, 1);
            Checks.read(x, 1, v, 4, 2, 0, 1, 1, 1, 6, 0, 0, 0, 6, 0, 0, 1);
            atLast(x, 7, 7, 0, 2, 3, 4);
        }
    }

    /** IMPOSSIBLE: all FACTORS are 0 and RIGHT is below 0. */
    private static void alikeByAnImpossibleOne() {
        int[] rights = {-100000, -2, -1, 0, 1, 100000};
        for (int right : rights) {
            int fault = right < 0 ? 0 : 7;
            PlanCertificates x = eight(right);
            Checks.read(x, 1, 7, 6, 0, 0, 0, 6, 0, 0, 1);
            atLast(x, fault, 7, 0, 1, 2, 3);
            x = eight(right);
            Checks.read(x, 1, 7, 6, 0, 0, 0, 6, 0, 0, 1);
            atLast(x, fault, 7, 1, 0, 2, 3);
        }
        // One FACTOR is enough not to be IMPOSSIBLE.
        for (int v = 0; v < 8; v++) {
            int[] factors = new int[8];
            factors[v] = 2;
            PlanCertificates x = eight(-1, factors);
            Checks.read(x, 1, v, 6, 0, 0, 0, 6, 0, 0, 1);
            atLast(x, 7, 7, 0, 1, 2, 3);
        }
    }

    /** Row 0: f x <= right, row 1: 0 <= 0 or so; rows 2 to 4 are row 0 1000, 10^6, 10^9 times. */
    private static PlanCertificates great(int factor, int right, int smallFactor, int smallRight) {
        PlanCertificates x = Checks.withModel(1, 0, 9, 0, 2, factor, right, smallFactor, smallRight, 0);
        Checks.begin(x);
        Checks.due("great rows", Checks.read(x, 0, 0, 0, 1, 4, 1, 0, 1000, 4, 1, 2, 1000, 4, 1, 3, 1000), 5);
        return x;
    }

    /** 8 a FACTOR is beyond -10^12 to 10^12. */
    private static void factorAtTheBound() {
        int[] signs = {1, -1};
        for (int sign : signs) {
            PlanCertificates x = great(sign, 0, -sign, 0);
            atLast(x, 0, 4, 2, 4, 999, 3, 1000);
            Checks.dueRow(x, 5, 0, sign * MOST);
            atLast(great(sign, 0, sign, 0), 0, 4, 1, 4, 1000);
            atLast(great(sign, 0, sign, 0), 8, 4, 2, 4, 1000, 1, 1);
            x = great(sign, 0, -sign, 0);
            atLast(x, 0, 4, 2, 4, 1000, 1, 1);
            Checks.dueRow(x, 5, 0, sign * (MOST - 1));
        }
    }

    /** 8 a RIGHT is beyond -10^12 to 10^12. */
    private static void rightAtTheBound() {
        int[] signs = {1, -1};
        for (int sign : signs) {
            PlanCertificates x = great(0, sign, 0, -sign);
            atLast(x, 0, 4, 1, 4, 1000);
            Checks.dueRow(x, 5, sign * MOST, 0);
            atLast(great(0, sign, 0, sign), 8, 4, 2, 4, 1000, 1, 1);
            x = great(0, sign, 0, -sign);
            atLast(x, 0, 4, 2, 4, 1000, 1, 1);
            Checks.dueRow(x, 5, sign * (MOST - 1), 0);
        }
    }

    private static void eachFactorCounts() {
        for (int v = 0; v < 8; v++) {
            int[] factors = new int[8];
            factors[v] = -100;
            PlanCertificates x = eight(0, factors);
            Checks.read(x, 4, 1, 0, 1000, 4, 1, 1, 1000, 6, v, 0, 1);
            PlanCertificates y = eight(0, factors);
            Checks.read(y, 4, 1, 0, 1000, 4, 1, 1, 1000, 6, v, 0, 1);
            // 100 * 10^6 * 1000 is 10^11: ten times that is the bound.
            atLast(x, 0, 4, 1, 2, 1000);
            atLast(x, 0, 4, 1, 4, 10);
            Checks.due("row(5, " + v + ")", Checks.row(x, 5, v), -MOST);
            atLast(x, 8, 4, 2, 5, 1, 3, 1);
            atLast(y, 0, 4, 1, 2, 1000);
            atLast(y, 8, 4, 1, 4, 11);
        }
    }

    /** What is beyond on the way does not matter: only what the ROW has at the end. */
    private static void sumsOnTheWay() {
        PlanCertificates x = great(1, 9, -1, -9);
        Checks.read(x, 4, 1, 1, 1000, 4, 1, 5, 1000, 4, 1, 6, 1000);
        Checks.dueRow(x, 7, -9000000000L, -1000000000L);
        atLast(x, 0, 4, 4, 4, 1000, 7, 1000, 4, 111, 7, 111);
        Checks.dueRow(x, 8, 0, 0);
        atLast(x, 8, 4, 3, 7, 1, 4, 1000, 4, 1000);
    }

    /** x + 10^9 y <= right: y from -1000 (or 1000 alone) on makes 10^12 of it. */
    private static PlanCertificates pushed(int sign, int low, int high, int right) {
        PlanCertificates x = Checks.withModel(2, 0, 9, 0, low, high, 0, 2, sign, 0, right, 0, 1, 0, 0);
        Checks.begin(x);
        Checks.read(x, 0, 0, 0, 1, 4, 1, 1, 1000, 4, 1, 2, 1000, 4, 1, 3, 1000);
        Checks.due("six rows", Checks.read(x, 4, 2, 0, 1, 4, 1), 6);
        Checks.dueRow(x, 5, right, sign, 1000000000L);
        return x;
    }

    /** 8: the RIGHT of PUSH. */
    private static void pushedRightAtTheBound() {
        int[] signs = {1, -1};
        for (int sign : signs) {
            PlanCertificates x = pushed(sign, -1000, 5, 0);
            atLast(x, 0, 9, 5, 0);
            Checks.dueRow(x, 6, MOST, sign, 0);
            atLast(pushed(sign, -1000, 5, -1), 0, 9, 5, 0);
            atLast(pushed(sign, -1000, 5, 1), 8, 9, 5, 0);
            x = pushed(sign, 1000, 1000, 0);
            atLast(x, 0, 9, 5, 0);
            Checks.dueRow(x, 6, -MOST, sign, 0);
            atLast(pushed(sign, 1000, 1000, 1), 0, 9, 5, 0);
            atLast(pushed(sign, 1000, 1000, -1), 8, 9, 5, 0);
        }
    }

    /** 5, 6, 7 ahead of 8: a FACTOR of 0 is told, though what is left would be too great. */
    private static void fiveAheadOfEight() {
        PlanCertificates x = pushed(0, -1000, 5, 1);
        atLast(x, 5, 9, 5, 0);
        x = pushed(0, 1000, 1000, -1);
        atLast(x, 5, 9, 5, 0);
        // Next to it, where nothing but 8 is wrong.
        atLast(pushed(1, -1000, 5, 1), 8, 9, 5, 0);
    }

    /** 9 too many: the 1501st number. */
    private static void the1501stNumber() {
        PlanCertificates x = Fill.begun();
        int rows = Fill.read(x, 1499);
        Checks.due("1499 numbers", x.told(7), 1499);
        Checks.due("the 1500th", Checks.read(x, 1), rows);
        Checks.dueFault(x, 0, -1, -1);
        Checks.due("1500 numbers", x.told(7), 1500);
        Checks.due("an empty tape", x.read(), rows);
        Checks.due("the 1501st, which would make a row whole", Checks.read(x, 0), -19);
        Checks.dueFault(x, 9, rows, 1500);
        Checks.due("told(5)", x.told(5), rows);
        Checks.due("told(7)", x.told(7), 1500);
        x = Fill.begun();
        rows = Fill.read(x, 1498, 1, 0);
        Checks.due("a row that ends with the 1500th", x.told(5), rows);
        Checks.dueFault(x, 0, -1, -1);
        Checks.due("a KIND as the 1501st", Checks.read(x, 1), -19);
        Checks.dueFault(x, 9, rows, 1500);
        // More of them at once: the 1501st alone is told.
        x = Fill.begun();
        Checks.due("1510 numbers", Fill.read(x, 1500, 1, 0, 1, 0, 1, 0, 1, 0, 1, 0), -19);
        Checks.due("fault(2)", x.fault(2), 1500);
        Checks.due("told(7)", x.told(7), 1500);
    }

    /** Ahead of all others: what would be FAULT 2 to 8 as the 1500th number is 9 as the 1501st. */
    private static void the1501stAheadOfAllOthers() {
        int[][] rows = {{10}, {1, 2}, {5, 199}, {5, 0, 2}, {7, 0, 0, 0, 0}, {7, 0, 1, 2, 3}, {4, 1, 7, 2}};
        for (int i = 0; i < rows.length; i++) {
            int[] row = rows[i];
            int fault = i + 2;
            PlanCertificates x = Fill.begun();
            Checks.due("FAULT " + fault + " as the 1500th", Fill.read(x, 1500 - row.length, row), -10 - fault);
            Checks.dueFault(x, fault, x.told(5), 1499);
            Checks.due("told(7)", x.told(7), 1500);
            x = Fill.begun();
            Checks.due("FAULT " + fault + " as the 1501st", Fill.read(x, 1501 - row.length, row), -19);
            Checks.dueFault(x, 9, x.told(5), 1500);
            Checks.due("told(7)", x.told(7), 1500);
        }
    }

    /** 9: the KIND of the 201st ROW, whatever it is. */
    private static void the201stRow() {
        for (int kind = 0; kind <= 9; kind++) {
            PlanCertificates x = Fill.begun();
            Checks.due("199 rows", Fill.rows(x, 199, 1, 0), 199);
            Checks.due("the KIND of the 200th", Checks.read(x, 1), 199);
            Checks.due("the 200th", Checks.read(x, 0), 200);
            Checks.dueFault(x, 0, -1, -1);
            Checks.due("an empty tape", x.read(), 200);
            Checks.due("KIND " + kind + " of the 201st", Checks.read(x, kind), -19);
            Checks.dueFault(x, 9, 200, 401);
            Checks.due("told(5)", x.told(5), 200);
            Checks.due("told(7)", x.told(7), 402);
            Checks.due("number(401)", Checks.number(x, 401), kind);
        }
    }

    /** 9: the KIND of the 61st BRANCH; rows of other KINDS still come. */
    private static void the61stBranch() {
        PlanCertificates x = Fill.begun();
        Checks.due("59 branches", Fill.branches(x, 59), 59);
        Checks.due("the KIND of the 60th", Checks.read(x, 6), 59);
        Checks.due("the 60th", Checks.read(x, 0, 0, 1), 60);
        Checks.due("told(6)", x.told(6), 60);
        Checks.dueFault(x, 0, -1, -1);
        int[][] others = {{0, 0}, {1, 0}, {2, 0}, {3, 0, 1, 1}, {4, 1, 0, 1}, {5, 60, 2}, {7, 0, 0, 0, 59}, {8, 0}, {9, 0, 0}};
        for (int i = 0; i < others.length; i++) {
            Checks.due("KIND " + others[i][0], Checks.read(x, others[i]), 61 + i);
        }
        int place = x.told(7);
        Checks.due("the 61st BRANCH", Checks.read(x, 6), -19);
        Checks.dueFault(x, 9, 69, place);
        Checks.due("told(6)", x.told(6), 60);
        Checks.due("told(7)", x.told(7), place + 1);
    }

    /** Behind 2. */
    private static void tooManyRowsBehindNoSuchKind() {
        int[] wrong = {Integer.MIN_VALUE, -1, 10, Integer.MAX_VALUE};
        for (int kind : wrong) {
            PlanCertificates x = Fill.begun();
            Fill.rows(x, 200, 1, 0);
            Checks.due("KIND " + kind + " of the 201st", Checks.read(x, kind), -12);
            Checks.dueFault(x, 2, 200, 401);
            x = Fill.begun();
            Fill.branches(x, 60);
            Checks.due("KIND " + kind + " behind 60 BRANCHES", Checks.read(x, kind), -12);
            Checks.dueFault(x, 2, 60, 241);
        }
    }
}
