/** Promise 3: drop. */
public final class Promise03Drop {
    public static void main(String[] args) {
        howManyItHad();
        theTapeIsEmpty();
        allElseStays();
        Checks.finish();
    }

    private static void howManyItHad() {
        int[] counts = {0, 1, 2, 4, 5, 999, 1000};
        for (int count : counts) {
            PlanCertificates x = new PlanCertificates();
            Fill.tape(x, count, 1);
            Checks.due("drop() of " + count, x.drop(), count);
            Checks.due("told(0)", x.told(0), 0);
            Checks.due("drop() again", x.drop(), 0);
        }
        PlanCertificates x = new PlanCertificates();
        Fill.tape(x, 1000, 1);
        x.put(1, 1, 1, 1, 1);
        Checks.due("drop() behind a refused put", x.drop(), 1000);
        x.put(3, 1, 0, 5, 1);
        x.model();
        Checks.due("drop() of a tape that is used up", x.drop(), 0);
    }

    private static void theTapeIsEmpty() {
        PlanCertificates x = new PlanCertificates();
        Checks.put(x, 9, 9, 9);
        x.drop();
        Checks.due("put behind drop()", x.put(2, 1, 0, 9, 9), 2);
        Checks.put(x, 5, 1, 0, 0);
        Checks.due("model() of what came behind drop()", x.model(), 1);
        Checks.put(x, 3);
        x.drop();
        Checks.due("plan() of an empty tape", x.plan(), PlanCertificates.OUTSIDE);
        x.begin();
        Checks.put(x, x.digest() + 1);
        x.drop();
        Checks.due("read() of an empty tape", x.read(), 0);
        Checks.due("told(7)", x.told(7), 0);
    }

    private static void allElseStays() {
        for (int state = 0; state < Twins.STATES; state++) {
            PlanCertificates x = Twins.inState(state);
            PlanCertificates y = Twins.inState(state);
            x.drop();
            Checks.dueText("all else in state " + state, Checks.stateButTape(x), Checks.stateButTape(y));
        }
        PlanCertificates x = Twins.inState(Twins.IN_A_ROW);
        x.drop();
        Checks.due("the row that was begun goes on", Checks.read(x, 3, 2, 1), 6);
        Checks.dueRow(x, 5, 3 * 3 + 7, 2, 3 - 4);
    }
}
