/** Promises 9 (begin), 10 (read) and 11 (fault), with the faults of numbers one by one. */
public final class CertificateTest {
    /** x and y are 0 to 9 and cost 1 and 2; 2x - 4y <= 7; (x, y) is (0, 0), (1, 5) or (2, 3). */
    private static final int[] MODEL = {2, 0, 9, 1, 0, 9, 2, 1, 2, -4, 7, 1, 0, 1, 3, 0, 0, 1, 5, 2, 3};

    public static void main(String[] args) {
        begins();
        reads();
        piecesDoNotMatter();
        digestFault();
        kindFaults();
        boundFaults();
        standingFaults();
        factorFaults();
        joinFaults();
        greatFaults();
        tooManyNumbers();
        tooManyRows();
        tooManyBranches();
        Checks.finish();
    }

    private static PlanCertificates fresh() {
        PlanCertificates x = Checks.withModel(MODEL);
        Checks.plan(x, 1, 5);
        Checks.plan(x, 1, 4);
        Checks.begin(x);
        return x;
    }

    private static void begins() {
        PlanCertificates x = new PlanCertificates();
        Checks.due("begin() without a model", x.begin(), PlanCertificates.STATE);
        x = Checks.withModel(MODEL);
        Checks.put(x, 1, 2, 3);
        Checks.due("the first", x.begin(), 0);
        Checks.due("begin() leaves the tape", x.told(0), 3);
        x.drop();
        Checks.due("an empty one", x.begin(), 0);
        Checks.read(x, x.digest(), 1, 0, 4);
        Checks.due("with a row that is not whole", x.begin(), 4);
        Checks.due("rows", x.told(5), 0);
        Checks.due("numbers", x.told(7), 0);
        Checks.due("what was begun is forgotten", Checks.read(x, x.digest(), 2, 1), 1);
        Checks.due("kind", Checks.row(x, 0, 12), 2);
        Checks.read(x, 6, 0, 5, 0, 88, 1, 1);
        Checks.due("behind a fault with it alone", x.begin(), 8);
        Checks.dueFault(x, 0, -1, -1);
        Checks.due("branches", x.told(6), 0);
        Checks.due("number(0)", Checks.number(x, 0), Checks.THROWS_INDEX);
    }

    private static void reads() {
        PlanCertificates x = new PlanCertificates();
        Checks.due("read() without a model", Checks.read(x, 1, 2), PlanCertificates.STATE);
        Checks.due("the tape is used up", x.told(0), 0);
        x = Checks.withModel(MODEL);
        Checks.due("read() before begin()", Checks.read(x, 1, 2), PlanCertificates.STATE);
        Checks.due("the tape is used up", x.told(0), 0);
        x.begin();
        Checks.due("an empty tape", x.read(), 0);
        Checks.due("the digest", Checks.read(x, x.digest()), 0);
        Checks.due("an empty tape", x.read(), 0);
        Checks.due("two rows and a half", Checks.read(x, 1, 0, 2, 1, 4, 2, 0), 2);
        Checks.due("the tape is used up", x.told(0), 0);
        Checks.due("an empty tape", x.read(), 2);
        Checks.due("the rest", Checks.read(x, 3, 1, 2), 3);
        Checks.due("a fault", Checks.read(x, 0, 0, 0, 1, 0, 0), -13);
        Checks.due("the tape is used up", x.told(0), 0);
        Checks.dueFault(x, 3, 4, 14);
        Checks.due("rows stay", x.told(5), 4);
        Checks.due("behind a fault", Checks.read(x, 0, 0), -13);
        Checks.due("the tape is used up", x.told(0), 0);
        Checks.due("behind a fault, an empty tape", x.read(), -13);
        Checks.dueFault(x, 3, 4, 14);
        Checks.due("numbers", x.told(7), 15);
        Checks.due("rows stay", x.told(5), 4);
        Checks.due("fault(3)", x.fault(3), PlanCertificates.OUTSIDE);
        Checks.due("fault(-1)", x.fault(-1), PlanCertificates.OUTSIDE);
        Checks.due("fault without a certificate", new PlanCertificates().fault(3), PlanCertificates.OUTSIDE);
    }

    private static void piecesDoNotMatter() {
        int[] numbers = {3, 0, 1, 1, 6, 0, 4, 0, 6, 0, 4, 1, 4, 2, 0, 3, 1, 2, 4, 2, 0, 3, 2, 3, 9, 3, 1,
            9, 4, 1, 7, 5, 6, 1, 2, 8, 0, 4, 4, 8, 1, 8, 2, 8, 3, 8, 4, 5, 9, 2};
        for (int piece = 1; piece <= numbers.length; piece++) {
            PlanCertificates x = fresh();
            int answer = 0;
            for (int i = 0; i < numbers.length; i += piece) {
                for (int j = i; j < i + piece && j < numbers.length; j++) {
                    x.put(1, numbers[j], 0, 0, 0);
                }
                answer = x.read();
            }
            Checks.due("read() in pieces of " + piece, answer, 11);
            Checks.dueRow(x, 7, 8, 0, 1);
            Checks.dueRow(x, 10, 50, 5, 10);
        }
    }

    /** Reads a row and expects a fault at its last number. */
    private static void dueAtLast(PlanCertificates x, int fault, int... numbers) {
        int rows = x.told(5);
        int before = x.told(7);
        Checks.due("read() up to the last", Checks.read(x, java.util.Arrays.copyOf(numbers, numbers.length - 1)), rows);
        Checks.due("no fault yet", x.fault(0), 0);
        Checks.due("read()", Checks.read(x, numbers[numbers.length - 1]), -10 - fault);
        Checks.dueFault(x, fault, rows, before + numbers.length - 1);
        Checks.due("numbers", x.told(7), before + numbers.length);
        Checks.due("the wrong number is the last", Checks.number(x, before + numbers.length - 1),
                numbers[numbers.length - 1]);
        Checks.due("rows", x.told(5), rows);
    }

    /** Rows 0: x <= 9, 1: y <= 9, 2: 2x - 4y <= 7, 3: x <= 4 (branch), 4: -x <= -5 (branch). */
    private static PlanCertificates withRows() {
        PlanCertificates x = fresh();
        Checks.due("five rows", Checks.read(x, 1, 0, 1, 1, 0, 0, 6, 0, 4, 0, 6, 0, 4, 1), 5);
        return x;
    }

    private static void digestFault() {
        PlanCertificates x = Checks.withModel(MODEL);
        x.begin();
        Checks.due("another digest", Checks.read(x, x.digest() + 1, 1, 0), -11);
        Checks.dueFault(x, 1, -1, 0);
        Checks.due("numbers", x.told(7), 1);
        Checks.due("number(0)", Checks.number(x, 0), x.digest() + 1);
        Checks.due("begin()", x.begin(), 1);
        Checks.due("the right one", Checks.read(x, x.digest(), 1, 0), 1);
    }

    private static void kindFaults() {
        dueAtLast(fresh(), 2, 10);
        dueAtLast(fresh(), 2, -1);
        dueAtLast(fresh(), 2, Integer.MAX_VALUE);
        dueAtLast(fresh(), 2, Integer.MIN_VALUE);
        dueAtLast(withRows(), 2, 10);
    }

    private static void boundFaults() {
        int[][] wrong = {
            {0, 1}, {0, -1}, {1, 2}, {1, -1}, {2, 2}, {2, -1}, {3, 0, 101}, {3, 0, -101}, {3, 0, 1, 101},
            {3, 0, 1, -101}, {4, 0}, {4, 5}, {4, -1}, {4, 1, 0, 0}, {4, 1, 0, 1001}, {4, 1, 0, -1},
            {4, 2, 0, 1, 1, 0}, {5, 0, 1}, {5, 0, 0}, {5, 0, -2}, {5, 0, 1001}, {6, 2}, {6, -1},
            {6, 0, 1001}, {6, 0, -1001}, {6, 0, 0, 2}, {6, 0, 0, -1}, {9, 0, 2}, {9, 0, -1},
            {0, Integer.MIN_VALUE}, {1, Integer.MAX_VALUE}, {4, Integer.MAX_VALUE},
        };
        for (int[] numbers : wrong) {
            dueAtLast(withRows(), 3, numbers);
        }
        int[][] right = {
            {0, 0}, {1, 1}, {2, 1}, {3, 0, 100, -100}, {3, 0, -100, 100}, {4, 1, 0, 1}, {4, 1, 0, 1000},
            {4, 4, 0, 1, 1, 1, 2, 1, 3, 1}, {5, 2, 2}, {6, 1, 1000, 0}, {6, 1, -1000, 1}, {9, 2, 1}, {8, 0},
        };
        for (int[] numbers : right) {
            Checks.due("a row at the edges", Checks.read(withRows(), numbers), 6);
        }
    }

    private static void standingFaults() {
        int[][] wrong = {
            {3, 1}, {3, -1}, {4, 1, 5}, {4, 1, -1}, {4, 2, 4, 1, 5}, {5, 5}, {5, -1}, {7, 5}, {7, -1},
            {7, 0, 5}, {7, 0, 0, 5}, {7, 0, 0, 3, 5}, {7, 0, 0, 3, -1}, {8, 1}, {8, 2}, {8, -1}, {9, 5}, {9, -1},
            {4, 1, Integer.MAX_VALUE}, {8, Integer.MIN_VALUE}, {3, Integer.MAX_VALUE},
        };
        for (int[] numbers : wrong) {
            dueAtLast(withRows(), 4, numbers);
        }
        dueAtLast(fresh(), 4, 5, 0);
        PlanCertificates x = fresh();
        Checks.due("a plan that is told later", Checks.read(x, 8), 0);
        Checks.plan(x, 2, 3);
        Checks.due("stands then", Checks.read(x, 2), 1);
        Checks.dueRow(x, 0, 7, 1, 2);
    }

    private static void factorFaults() {
        dueAtLast(withRows(), 5, 5, 2, 4);
        dueAtLast(withRows(), 5, 5, 2, 3);
        dueAtLast(withRows(), 5, 5, 0, 2);
        dueAtLast(withRows(), 5, 9, 0, 1);
        dueAtLast(withRows(), 5, 9, 1, 0);
    }

    private static void joinFaults() {
        dueAtLast(withRows(), 6, 7, 0, 0, 4, 3);
        dueAtLast(withRows(), 6, 7, 0, 0, 3, 3);
        dueAtLast(withRows(), 6, 7, 0, 0, 4, 4);
        dueAtLast(withRows(), 6, 7, 0, 0, 3, 0);
        dueAtLast(withRows(), 6, 7, 0, 0, 0, 4);
        dueAtLast(withRows(), 7, 7, 0, 1, 3, 4);
        dueAtLast(withRows(), 7, 7, 3, 4, 3, 4);
        // 6 stands ahead of 7.
        dueAtLast(withRows(), 6, 7, 0, 1, 4, 3);
        PlanCertificates x = withRows();
        Checks.read(x, 6, 0, 5, 1, 6, 1, 4, 1);
        dueAtLast(x, 6, 7, 0, 0, 3, 5);
        x = withRows();
        Checks.read(x, 6, 0, 5, 1, 6, 1, 4, 1);
        dueAtLast(x, 6, 7, 0, 0, 3, 6);
        Checks.due("alike", Checks.read(withRows(), 7, 0, 0, 3, 4), 6);
    }

    /** Row 0: x <= 9, and 1 to 3 are 1000, 10^6 and 10^9 times that. */
    private static PlanCertificates withGreatRows() {
        PlanCertificates x = fresh();
        Checks.due("great rows", Checks.read(x, 1, 0, 4, 1, 0, 1000, 4, 1, 1, 1000, 4, 1, 2, 1000), 4);
        return x;
    }

    private static void greatFaults() {
        dueAtLast(withGreatRows(), 8, 4, 1, 3, 112);
        PlanCertificates x = withGreatRows();
        Checks.due("a RIGHT of 999 10^9", Checks.read(x, 4, 1, 3, 111), 5);
        Checks.dueRow(x, 4, 999000000000L, 111000000000L, 0);
        // Of LOW and HIGH 0 only the FACTOR grows: 10^12 still fits.
        x = Checks.withModel(1, 0, 0, 0, 0, 0);
        Checks.begin(x);
        Checks.read(x, 1, 0, 2, 0, 4, 1, 0, 1000, 4, 1, 2, 1000, 4, 1, 3, 1000, 4, 1, 4, 1000);
        Checks.dueRow(x, 5, 0, 1000000000000L);
        Checks.due("and no more", Checks.read(x, 4, 2, 5, 1, 0, 1), -18);
        Checks.dueFault(x, 8, 6, 26);
        // -10^12 too; and what is too great on the way does not matter.
        x = Checks.withModel(1, 0, 0, 0, 0, 0);
        Checks.begin(x);
        Checks.read(x, 2, 0, 1, 0, 4, 1, 0, 1000, 4, 1, 2, 1000, 4, 1, 3, 1000, 4, 1, 4, 1000);
        Checks.dueRow(x, 5, 0, -1000000000000L);
        Checks.due("less again", Checks.read(x, 4, 3, 5, 1, 0, 1, 1, 1), 7);
        Checks.dueRow(x, 6, 0, -1000000000000L);
        dueAtLast(x, 8, 4, 2, 5, 1, 0, 1);
        // RIGHT alone, at both ends.
        x = Checks.withModel(1, 1, 1000, 0, 2, 0, 1000, 0, -1000, 0);
        Checks.begin(x);
        Checks.read(x, 0, 0, 4, 1, 0, 1000, 4, 1, 1, 1000, 4, 1, 2, 1000);
        Checks.dueRow(x, 3, 1000000000000L, 0);
        dueAtLast(x, 8, 4, 2, 3, 1, 0, 1);
        x.begin();
        Checks.read(x, x.digest(), 0, 1, 4, 1, 0, 1000, 4, 1, 1, 1000, 4, 1, 2, 1000);
        Checks.dueRow(x, 3, -1000000000000L, 0);
        dueAtLast(x, 8, 4, 2, 3, 1, 0, 1);
        // PUSH of x + 10^10 y <= 10^11 with y from -1000 on.
        x = Checks.withModel(2, 0, 9, 0, -1000, 0, 0, 2, 1, 0, 0, 0, 1, 100, 0);
        Checks.begin(x);
        Checks.read(x, 0, 0, 0, 1, 4, 1, 1, 1000, 4, 1, 2, 1000, 4, 1, 3, 1000, 4, 2, 4, 10, 0, 1);
        Checks.dueRow(x, 5, 1000000000000L, 1, 10000000000L);
        dueAtLast(x, 8, 9, 5, 0);
    }

    /** Rows of ten numbers on the tape, so often: the calls of an object are counted. */
    private static int sums(PlanCertificates x, int often) {
        int[] sum = {4, 4, 0, 1, 0, 1, 0, 1, 0, 1};
        int[] all = new int[sum.length * often];
        for (int i = 0; i < all.length; i++) {
            all[i] = sum[i % sum.length];
        }
        return Fill.inTapes(x, all);
    }

    private static void tooManyNumbers() {
        PlanCertificates x = fresh();
        // The digest, a row of two and 149 rows of ten numbers are 1493; 7 more make 1500.
        Checks.read(x, 1, 0);
        Checks.due("rows", sums(x, 149), 150);
        Checks.due("numbers", x.told(7), 1493);
        Checks.due("up to the 1500th", Checks.read(x, 4, 4, 0, 1, 0, 1, 0), 150);
        Checks.due("numbers", x.told(7), 1500);
        Checks.due("nothing more", x.read(), 150);
        Checks.due("the 1501st", Checks.read(x, Integer.MAX_VALUE), -19);
        Checks.dueFault(x, 9, 150, 1500);
        Checks.due("the 1501st is none", x.told(7), 1500);
        Checks.due("number(1500)", Checks.number(x, 1500), Checks.THROWS_INDEX);
        Checks.due("number(1499)", Checks.number(x, 1499), 0);
        Checks.due("begin()", x.begin(), 1500);
        // A KIND as the 1501st: 9 is ahead of 2.
        x = fresh();
        Checks.read(x, 1, 0, 4, 3, 0, 1, 0, 1, 0, 1, 6, 0, 0, 0, 2, 0, 9, 0, 0);
        Checks.due("numbers", x.told(7), 20);
        Checks.due("rows", sums(x, 148), 153);
        Checks.due("a whole row at the 1500th", x.told(7), 1500);
        Checks.due("no fault", x.fault(0), 0);
        Checks.due("a wrong KIND as the 1501st", Checks.read(x, 10), -19);
        Checks.dueFault(x, 9, 153, 1500);
    }

    private static void tooManyRows() {
        PlanCertificates x = fresh();
        for (int i = 0; i < 200; i++) {
            Checks.due("row " + i, Checks.read(x, 1, i & 1), i + 1);
        }
        Checks.due("rows", x.told(5), 200);
        Checks.due("no fault", x.fault(0), 0);
        Checks.due("the 201st", Checks.read(x, 1, 0), -19);
        Checks.dueFault(x, 9, 200, 401);
        Checks.due("its KIND is the last number", x.told(7), 402);
        Checks.dueRow(x, 199, 9, 0, 1);
        x = fresh();
        for (int i = 0; i < 200; i++) {
            Checks.read(x, 1, 0);
        }
        Checks.due("2 ahead of 9", Checks.read(x, 10), -12);
    }

    private static void tooManyBranches() {
        PlanCertificates x = fresh();
        for (int i = 0; i < 60; i++) {
            Checks.due("branch " + i, Checks.read(x, 6, 0, i, 1), i + 1);
        }
        Checks.due("branches", x.told(6), 60);
        Checks.due("another row", Checks.read(x, 1, 0), 61);
        Checks.due("the last branch", Checks.assumes(x, 59, 0), 59);
        Checks.due("a sum of many", Checks.read(x, 4, 4, 0, 1, 59, 1, 30, 1, 7, 1), 62);
        Checks.dueAssumptions(x, 61, 0, 7, 30, 59);
        Checks.due("the 61st", Checks.read(x, 6, 0, 0, 0), -19);
        Checks.dueFault(x, 9, 62, 253);
        Checks.due("numbers", x.told(7), 254);
        Checks.due("trim(61)", Checks.trim(x, 61), 5);
        Checks.due("branches again", Checks.read(x, 6, 0, 0, 0), 6);
        Checks.due("branches", x.told(6), 5);
    }
}
