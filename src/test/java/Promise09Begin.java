/** Promise 9: begin. */
public final class Promise09Begin {
    public static void main(String[] args) {
        withoutAModel();
        stateChangesNothing();
        withoutOneBefore();
        howManyTheOneBeforeHad();
        fullOneBefore();
        theNewOneIsEmpty();
        allElseStays();
        Checks.finish();
    }

    private static void withoutAModel() {
        PlanCertificates x = new PlanCertificates();
        Checks.due("of a new object", x.begin(), PlanCertificates.STATE);
        Checks.put(x, 1, 5, 4);
        Checks.due("with numbers on the tape", x.begin(), PlanCertificates.STATE);
        x.model();
        Checks.due("behind a refused model", x.begin(), PlanCertificates.STATE);
        Checks.due("none has begun", Checks.read(x, 0), PlanCertificates.STATE);
    }

    private static void stateChangesNothing() {
        for (int state = 0; !Twins.hasModel(state); state++) {
            Twins.unchangedIn(state, "begin()",
                    x -> Checks.due("begin()", x.begin(), PlanCertificates.STATE), x -> { });
        }
    }

    /** 0 without one. */
    private static void withoutOneBefore() {
        PlanCertificates x = Checks.withModel(Fill.MODEL);
        Checks.due("the first", x.begin(), 0);
        x = Fill.begun();
        Checks.read(x, x.digest(), 1, 0);
        Checks.put(x, Fill.MODEL);
        x.model();
        Checks.due("of another model", x.begin(), 0);
    }

    private static void howManyTheOneBeforeHad() {
        PlanCertificates x = Fill.begun();
        Checks.due("it had none", x.begin(), 0);
        Checks.read(x, x.digest());
        Checks.due("the digest alone", x.begin(), 1);
        Checks.read(x, x.digest() + 1, 1, 0);
        Checks.due("another digest, and nothing behind it", x.begin(), 1);
        Checks.read(x, x.digest(), 1, 0);
        Checks.due("a row", x.begin(), 3);
        Checks.read(x, x.digest(), 1, 0, 4, 2, 0);
        Checks.due("with a row that is not whole", x.begin(), 6);
        Checks.read(x, x.digest(), 1, 0, 10, 1, 0);
        Checks.due("with the number of the FAULT, and nothing behind it", x.begin(), 4);
        Checks.read(x, x.digest(), 1, 0, 1, 1, 1, 0);
        Checks.trim(x, 1);
        Checks.due("behind trim()", x.begin(), 3);
    }

    /** The 1501st number is none. */
    private static void fullOneBefore() {
        PlanCertificates x = Fill.begun();
        Fill.read(x, 1499);
        Checks.due("with 1499", x.begin(), 1499);
        x = Fill.begun();
        Fill.read(x, 1500);
        Checks.due("with 1500", x.begin(), 1500);
        x = Fill.begun();
        Fill.read(x, 1500, 1);
        Checks.due("behind the 1501st", x.begin(), 1500);
    }

    private static void theNewOneIsEmpty() {
        for (int state = Twins.BEGUN; state < Twins.STATES; state++) {
            PlanCertificates x = Twins.inState(state);
            x.begin();
            for (int what = 5; what <= 7; what++) {
                Checks.due("told(" + what + ")", x.told(what), 0);
            }
            Checks.dueFault(x, 0, -1, -1);
            Checks.due("proved()", x.proved(), 0);
            Checks.due("best()", Checks.best(x), Checks.THROWS_STATE);
            Checks.due("least()", Checks.least(x), Checks.THROWS_STATE);
            Checks.due("number(0)", Checks.number(x, 0), Checks.THROWS_INDEX);
            Checks.due("row(0, 8)", Checks.row(x, 0, 8), Checks.THROWS_INDEX);
            x.drop();
            Checks.due("the digest comes first", Checks.read(x, x.digest(), 2, 1), 1);
            Checks.dueRow(x, 0, 0, 0, -1);
        }
    }

    private static void allElseStays() {
        PlanCertificates x = Twins.inState(Twins.IN_A_ROW);
        int digest = x.digest();
        x.begin();
        Checks.due("told(0)", x.told(0), 3);
        Checks.due("told(1)", x.told(1), 2);
        Checks.due("told(4)", x.told(4), 2);
        Checks.due("digest()", x.digest(), digest);
        Checks.due("breaks(1)", x.breaks(1), 200);
    }
}
