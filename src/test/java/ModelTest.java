import java.util.Arrays;

/** Promises 4 (model) and 8 (digest). */
public final class ModelTest {
    private static final int[] SMALL = {2, -5, 5, 1, 0, 9, -2, 1, 3, -4, 7, 1, 1, 0, 2, -1, 4, 6, -8};

    public static void main(String[] args) {
        small();
        eachNumberAtItsEdges();
        eachNumberLacking();
        greatest();
        refusedChangesNothing();
        acceptedEndsAllElse();
        digests();
        Checks.finish();
    }

    private static int answer(int... numbers) {
        PlanCertificates x = new PlanCertificates();
        Checks.put(x, numbers);
        int answer = x.model();
        Checks.due("told(0) behind model()", x.told(0), 0);
        Checks.due("told(1) behind model()", x.told(1), answer == 1 ? numbers[0] : 0);
        return answer;
    }

    private static void small() {
        Checks.due("the small model", answer(SMALL), 1);
        int[] longer = Arrays.copyOf(SMALL, SMALL.length + 1);
        Checks.due("one number more", answer(longer), -10 - SMALL.length);
        longer = Arrays.copyOf(SMALL, SMALL.length + 7);
        Checks.due("seven numbers more", answer(longer), -10 - SMALL.length);
        Checks.due("an empty tape", answer(), -10);
    }

    private static void eachNumberAtItsEdges() {
        edges(1, -1000, 5);
        edges(2, -5, 1000);
        edges(3, -100, 100);
        edges(4, -1000, 9);
        edges(5, 0, 1000);
        edges(6, -100, 100);
        edges(8, -100, 100);
        edges(9, -100, 100);
        edges(10, -100000, 100000);
        edges(15, -1000, 1000);
        edges(18, -1000, 1000);
        Checks.due("no variable", answer(0), -10);
        Checks.due("nine variables", answer(9), -10);
        Checks.due("21 rules", answer(1, 0, 0, 0, 21), -14);
        Checks.due("-1 rules", answer(1, 0, 0, 0, -1), -14);
        Checks.due("5 tables", answer(1, 0, 0, 0, 0, 5), -15);
        Checks.due("-1 tables", answer(1, 0, 0, 0, 0, -1), -15);
        Checks.due("a table's first variable", answer(2, 0, 0, 0, 0, 0, 0, 0, 1, 2, 0, 1, 0, 0), -19);
        Checks.due("a table's first variable", answer(2, 0, 0, 0, 0, 0, 0, 0, 1, -1, 0, 1, 0, 0), -19);
        Checks.due("a table's second variable", answer(2, 0, 0, 0, 0, 0, 0, 0, 1, 0, 2, 1, 0, 0), -20);
        Checks.due("a table's second variable", answer(2, 0, 0, 0, 0, 0, 0, 0, 1, 0, -1, 1, 0, 0), -20);
        Checks.due("a table of one variable", answer(2, 0, 0, 0, 0, 0, 0, 0, 1, 1, 1, 1, 0, 0), -20);
        Checks.due("one variable, a table", answer(1, 0, 0, 0, 0, 1, 0, 0, 1, 0, 0), -17);
        Checks.due("no pairs", answer(2, 0, 0, 0, 0, 0, 0, 0, 1, 0, 1, 0), -21);
        Checks.due("21 pairs", answer(2, 0, 0, 0, 0, 0, 0, 0, 1, 0, 1, 21), -21);
    }

    /** Place i of the small model may be lowest to highest, and nothing beyond. */
    private static void edges(int i, int lowest, int highest) {
        int[] model = SMALL.clone();
        model[i] = lowest;
        Checks.due("lowest at " + i, answer(model), 1);
        model[i] = highest;
        Checks.due("highest at " + i, answer(model), 1);
        // A LOW beyond HIGH is no fault of LOW but of HIGH.
        boolean isLow = i == 1 || i == 4;
        model[i] = lowest - 1;
        Checks.due("below the lowest at " + i, answer(model), -10 - i);
        model[i] = highest + 1;
        Checks.due("above the highest at " + i, answer(model), -10 - (isLow ? i + 1 : i));
        if (isLow) {
            model[i] = 1001;
            Checks.due("a LOW of 1001", answer(model), -10 - i);
        }
        model[i] = Integer.MIN_VALUE;
        Checks.due("the least int at " + i, answer(model), -10 - i);
        model[i] = Integer.MAX_VALUE;
        Checks.due("the greatest int at " + i, answer(model), -10 - i);
    }

    private static void eachNumberLacking() {
        for (int n = 0; n < SMALL.length; n++) {
            Checks.due("only " + n + " numbers", answer(Arrays.copyOf(SMALL, n)), -10 - n);
        }
    }

    private static int[] greatestModel() {
        int[] m = new int[379];
        int n = 0;
        m[n++] = 8;
        for (int v = 0; v < 8; v++) {
            m[n++] = -1000;
            m[n++] = 1000;
            m[n++] = 100;
        }
        m[n++] = 20;
        for (int r = 0; r < 20; r++) {
            for (int v = 0; v < 8; v++) {
                m[n++] = 100;
            }
            m[n++] = 100000;
        }
        m[n++] = 4;
        for (int t = 0; t < 4; t++) {
            m[n++] = 7;
            m[n++] = t;
            m[n++] = 20;
            for (int p = 0; p < 40; p++) {
                m[n++] = p - 20;
            }
        }
        return m;
    }

    private static void greatest() {
        int[] m = greatestModel();
        PlanCertificates x = Checks.withModel(m);
        Checks.due("variables", x.told(1), 8);
        Checks.due("rules", x.told(2), 20);
        Checks.due("tables", x.told(3), 4);
        for (int n = 0; n < m.length; n += 13) {
            Checks.due("only " + n + " numbers", answer(Arrays.copyOf(m, n)), -10 - n);
        }
        Checks.due("a full tape", answer(Arrays.copyOf(m, 1000)), -10 - 379);
    }

    private static void refusedChangesNothing() {
        PlanCertificates x = Checks.withModel(1, 0, 5, 1, 1, -2, -3, 0);
        Checks.plan(x, 2);
        Checks.begin(x);
        Checks.read(x, 0, 0, 1);
        // A refused model is read far enough to spoil everything that would be shared.
        int[] other = greatestModel();
        other[378] = 1001;
        Checks.put(x, other);
        Checks.due("a refused model", x.model(), -10 - 378);
        Checks.due("told(0)", x.told(0), 0);
        Checks.due("told(1)", x.told(1), 1);
        Checks.due("told(2)", x.told(2), 1);
        Checks.due("told(3)", x.told(3), 0);
        Checks.due("told(4)", x.told(4), 1);
        Checks.due("told(5)", x.told(5), 1);
        Checks.due("told(7)", x.told(7), 4);
        Checks.due("digest()", x.digest(), 1224952588);
        Checks.due("cost(0)", Checks.cost(x, 0), 2);
        Checks.due("breaks(0)", x.breaks(0), -1);
        Checks.due("the row that was begun", Checks.read(x, 0), 2);
        Checks.dueRow(x, 1, 5, 1);
    }

    private static void acceptedEndsAllElse() {
        PlanCertificates x = Checks.withModel(2, 0, 5, 1, 0, 5, 7, 1, 1, 1, 9, 1, 0, 1, 1, 3, 3);
        Checks.plan(x, 3, 3);
        Checks.begin(x);
        Checks.read(x, 0, 0, 77);
        Checks.due("fault(0)", x.fault(0), 2);
        Checks.put(x, 1, -4, 5, 3, 0, 0);
        Checks.due("the next model", x.model(), 1);
        Checks.due("plans", x.told(4), 0);
        Checks.due("rows", x.told(5), 0);
        Checks.due("numbers", x.told(7), 0);
        Checks.dueFault(x, 0, -1, -1);
        Checks.due("breaks(0)", x.breaks(0), PlanCertificates.UNKNOWN);
        Checks.due("number(0)", Checks.number(x, 0), Checks.THROWS_INDEX);
        Checks.due("read() without a certificate", Checks.read(x, 5), PlanCertificates.STATE);
        Checks.due("told(0)", x.told(0), 0);
        Checks.due("begin()", x.begin(), 0);
        Checks.due("plan()", Checks.plan(x, -4), 0);
        Checks.due("cost(0)", Checks.cost(x, 0), -12);
        Checks.due("breaks(0)", x.breaks(0), -1);
    }

    private static void digests() {
        PlanCertificates x = new PlanCertificates();
        Checks.due("digest() without a model", x.digest(), 0);
        int h = 17;
        for (int number : SMALL) {
            h = 31 * h + number;
        }
        Checks.put(x, SMALL);
        Checks.due("digest() before model()", x.digest(), 0);
        x.model();
        Checks.due("digest()", x.digest(), h);
        h = 17;
        int[] m = greatestModel();
        for (int number : m) {
            h = 31 * h + number;
        }
        Checks.put(x, m);
        x.model();
        Checks.put(x, 5, 6);
        Checks.due("digest() of the greatest", x.digest(), h);
    }
}
