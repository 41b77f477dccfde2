import java.util.Arrays;

/** Promise 10: read. When it answers STATE, on an empty tape, in pieces, and behind a FAULT. */
public final class Promise10Read {
    public static void main(String[] args) {
        noneHasBegun();
        stateUsesTheTapeUpAndNothingElse();
        anEmptyTape();
        howManyRowsStand();
        piecesDoNotCount();
        aFullTape();
        behindAFault();
        behindItOnTheTape();
        rowsThatStandStay();
        Checks.finish();
    }

    private static void noneHasBegun() {
        PlanCertificates x = new PlanCertificates();
        Checks.due("without a model", x.read(), PlanCertificates.STATE);
        Checks.due("without a model, with a tape", Checks.read(x, 0, 1), PlanCertificates.STATE);
        x = Checks.withModel(Fill.MODEL);
        Checks.due("before begin()", x.read(), PlanCertificates.STATE);
        Checks.due("before begin(), the right digest", Checks.read(x, x.digest()), PlanCertificates.STATE);
        x.begin();
        Checks.due("behind begin()", Checks.read(x, x.digest()), 0);
        Checks.put(x, Fill.MODEL);
        x.model();
        Checks.due("of another model", Checks.read(x, x.digest()), PlanCertificates.STATE);
        x.begin();
        Checks.put(x, 9);
        x.model();
        Checks.due("a refused model lets it stand", Checks.read(x, x.digest()), 0);
        Checks.put(x, Fill.MODEL);
        x.model();
        Checks.due("of another model again", x.read(), PlanCertificates.STATE);
    }

    private static void stateUsesTheTapeUpAndNothingElse() {
        for (int state = 0; !Twins.hasBegun(state); state++) {
            Twins.unchangedIn(state, "read()", x -> {
                Checks.put(x, 1, 2, 3);
                Checks.due("read()", x.read(), PlanCertificates.STATE);
                Checks.due("told(0)", x.told(0), 0);
            }, PlanCertificates::drop);
        }
    }

    private static void anEmptyTape() {
        PlanCertificates x = Fill.begun();
        Checks.due("before the digest", x.read(), 0);
        Checks.due("told(7)", x.told(7), 0);
        Checks.due("the digest", Checks.read(x, x.digest()), 0);
        Checks.due("behind the digest", x.read(), 0);
        Checks.read(x, 1, 0, 1);
        Checks.due("in the midst of a row", x.read(), 1);
        Checks.due("told(7)", x.told(7), 4);
        Checks.due("the row goes on", Checks.read(x, 1), 2);
        Checks.dueRow(x, 1, 9, 0, 1);
        Checks.read(x, 10);
        Checks.due("behind a FAULT", x.read(), -12);
        Checks.due("told(7)", x.told(7), 6);
    }

    private static void howManyRowsStand() {
        PlanCertificates x = Fill.begun();
        Checks.due("the digest and a KIND", Checks.read(x, x.digest(), 1), 0);
        Checks.due("the first row", Checks.read(x, 0), 1);
        Checks.due("two rows and a half", Checks.read(x, 1, 1, 2, 0, 4, 1), 3);
        Checks.due("its end", Checks.read(x, 2, 1), 4);
        Checks.due("told(0)", x.told(0), 0);
        x = Fill.begun();
        Checks.due("199 rows", Fill.rows(x, 199, 1, 0), 199);
        Checks.due("200 rows", Checks.read(x, 1, 0), 200);
    }

    /** In any pieces: of one number each, of two, of three .. */
    private static void piecesDoNotCount() {
        int[] numbers = {0, 3, 0, 1, 1, 6, 1, 4, 0, 6, 1, 4, 1, 4, 2, 0, 3, 1, 2, 9, 0, 1, 8, 0, 7, 0, 0, 1, 2, 4, 1, 3, 7, 5, 7, 7};
        PlanCertificates whole = Fill.begun();
        numbers[0] = whole.digest();
        Checks.due("in one piece", Fill.inTapes(whole, numbers), 9);
        String due = Checks.state(whole);
        for (int piece = 1; piece < numbers.length; piece++) {
            PlanCertificates x = Fill.begun();
            int answer = 0;
            for (int i = 0; i < numbers.length; i += piece) {
                answer = Checks.read(x, Arrays.copyOfRange(numbers, i, Math.min(i + piece, numbers.length)));
            }
            Checks.due("in pieces of " + piece, answer, 9);
            Checks.dueText("in pieces of " + piece, Checks.state(x), due);
        }
    }

    private static void aFullTape() {
        PlanCertificates x = Fill.begun();
        Checks.put(x, Fill.numbers(x.digest(), 1000));
        Checks.due("told(0)", x.told(0), 1000);
        int rows = x.read();
        Checks.due("rows", rows, x.told(5));
        Checks.due("told(7)", x.told(7), 1000);
        Checks.due("fault(0)", x.fault(0), 0);
        Checks.due("told(0)", x.told(0), 0);
    }

    /** -10 less the FAULT (also behind one). */
    private static void behindAFault() {
        int[][] wrong = {{1, 0}, {0, 10}, {0, 1, 2}, {0, 5, 0}, {0, 1, 0, 5, 0, 2}, {0, 1, 0, 7, 0, 0, 0, 0},
            {0, 6, 0, 0, 0, 6, 0, 0, 1, 7, 0, 1, 0, 1},
            {0, 1, 1, 4, 1, 0, 1000, 4, 1, 1, 1000, 4, 1, 2, 1000, 4, 1, 3, 1000}};
        for (int fault = 1; fault <= 8; fault++) {
            int[] numbers = wrong[fault - 1];
            PlanCertificates x = Fill.begun();
            numbers[0] += x.digest();
            Checks.due("FAULT " + fault, Fill.inTapes(x, numbers), -10 - fault);
            String before = Checks.state(x);
            Checks.due("told(0)", x.told(0), 0);
            Checks.due("again", x.read(), -10 - fault);
            Checks.due("with what would be right", Checks.read(x, x.digest(), 1, 0), -10 - fault);
            Checks.due("with what would be wrong", Checks.read(x, 10, 10, 10), -10 - fault);
            Checks.due("told(0)", x.told(0), 0);
            Checks.dueText("nothing more is read", Checks.state(x), before);
        }
        PlanCertificates x = Fill.begun();
        Checks.due("FAULT 9", Fill.rows(x, 201, 1, 0), -19);
        Checks.due("again", x.read(), -19);
        Checks.due("with another row", Checks.read(x, 1, 0), -19);
        Checks.due("told(7)", x.told(7), 402);
        Checks.due("told(5)", x.told(5), 200);
    }

    /** What is behind it on THE TAPE counts for nothing. */
    private static void behindItOnTheTape() {
        PlanCertificates x = Fill.begun();
        Checks.due("rows behind a FAULT", Checks.read(x, x.digest(), 1, 0, 1, 9, 1, 1, 2, 0), -13);
        Checks.dueFault(x, 3, 1, 4);
        Checks.dueNumbers(x, x.digest(), 1, 0, 1, 9);
        Checks.due("told(5)", x.told(5), 1);
        Checks.due("told(0)", x.told(0), 0);
        x = Fill.begun();
        Checks.due("another FAULT behind a FAULT", Checks.read(x, x.digest(), 5, 0, 10), -14);
        Checks.dueFault(x, 4, 0, 2);
        Checks.dueNumbers(x, x.digest(), 5, 0);
        x = Fill.begun();
        int[] numbers = new int[1000];
        Arrays.fill(numbers, 1);
        numbers[0] = x.digest() - 1;
        Checks.put(x, numbers);
        Checks.due("a full tape with another DIGEST", x.read(), -11);
        Checks.dueNumbers(x, x.digest() - 1);
    }

    private static void rowsThatStandStay() {
        PlanCertificates x = Fill.begun();
        Checks.read(x, x.digest(), 1, 0, 6, 0, 0, 0, 8, 0, 4, 2, 0, 3, 1, 2, 10);
        Checks.due("fault(0)", x.fault(0), 2);
        Checks.due("told(5)", x.told(5), 4);
        Checks.due("told(6)", x.told(6), 1);
        Checks.dueRow(x, 0, 1, 1, 0);
        Checks.dueRow(x, 3, 3, 5, 0);
        Checks.dueAssumptions(x, 3, 1);
        Checks.due("holds(0, 0)", Checks.holds(x, 0, 0), 1);
    }
}
