/** Promise 1: a new object has no model, and an empty tape. Each call is the first one of its object. */
public final class Promise01NewObject {
    public static void main(String[] args) {
        emptyTape();
        noModel();
        noPlansAndNoCertificate();
        nothingIsShared();
        Checks.finish();
    }

    private static PlanCertificates x() {
        return new PlanCertificates();
    }

    private static void emptyTape() {
        Checks.due("told(0)", x().told(0), 0);
        Checks.due("drop()", x().drop(), 0);
        Checks.due("the first put", x().put(1, 7, 7, 7, 7), 1);
        Checks.due("model() lacks its first number", x().model(), -10);
    }

    private static void noModel() {
        Checks.due("digest()", x().digest(), 0);
        Checks.due("plan()", x().plan(), PlanCertificates.STATE);
        Checks.due("begin()", x().begin(), PlanCertificates.STATE);
        Checks.due("read()", x().read(), PlanCertificates.STATE);
        for (int what = 1; what <= 3; what++) {
            Checks.due("told(" + what + ")", x().told(what), 0);
        }
        Checks.due("least()", Checks.least(x()), Checks.THROWS_STATE);
    }

    private static void noPlansAndNoCertificate() {
        Checks.due("breaks(0)", x().breaks(0), PlanCertificates.UNKNOWN);
        Checks.due("cost(0)", Checks.cost(x(), 0), Checks.THROWS_INDEX);
        Checks.dueFault(x(), 0, PlanCertificates.NONE, PlanCertificates.NONE);
        for (int what = 0; what <= 14; what++) {
            Checks.due("row(0, " + what + ")", Checks.row(x(), 0, what), Checks.THROWS_INDEX);
        }
        Checks.due("assumes(0, 0)", Checks.assumes(x(), 0, 0), Checks.THROWS_INDEX);
        Checks.due("holds(0, 0)", Checks.holds(x(), 0, 0), Checks.THROWS_INDEX);
        Checks.due("proved()", x().proved(), 0);
        Checks.due("best()", Checks.best(x()), Checks.THROWS_STATE);
        Checks.due("trim(0)", Checks.trim(x(), 0), Checks.THROWS_INDEX);
        Checks.due("number(0)", Checks.number(x(), 0), Checks.THROWS_INDEX);
        for (int what = 4; what <= 7; what++) {
            Checks.due("told(" + what + ")", x().told(what), 0);
        }
    }

    private static void nothingIsShared() {
        PlanCertificates other = x();
        PlanCertificates used = Twins.inState(Twins.PROVED);
        Checks.due("the used one has a model", used.told(1), 2);
        Checks.dueText("one that was made before", Checks.state(other), Checks.state(x()));
        Checks.due("told(0)", x().told(0), 0);
    }
}
