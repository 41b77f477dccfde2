/** Promise 20: told. */
public final class Promise20Told {
    public static void main(String[] args) {
        outside();
        outsideChangesNothing();
        withoutAModel();
        withoutACertificate();
        onTheTape();
        ofTheModel();
        plans();
        rowsAndBranches();
        numbersOfTheCertificate();
        behindAFault();
        Checks.finish();
    }

    private static void dueTold(PlanCertificates x, int... due) {
        for (int what = 0; what < due.length; what++) {
            Checks.due("told(" + what + ")", x.told(what), due[what]);
        }
    }

    private static void outside() {
        int[] wrong = {Integer.MIN_VALUE, -2, -1, 8, 9, Integer.MAX_VALUE};
        for (int state = 0; state < Twins.STATES; state++) {
            PlanCertificates x = Twins.inState(state);
            for (int what : wrong) {
                Checks.due("told(" + what + ") in state " + state, x.told(what), PlanCertificates.OUTSIDE);
            }
        }
    }

    private static void outsideChangesNothing() {
        int[] wrong = {-1, 8};
        for (int what : wrong) {
            Twins.unchanged("told(" + what + ")",
                    x -> Checks.due("told()", x.told(what), PlanCertificates.OUTSIDE));
        }
    }

    private static void withoutAModel() {
        PlanCertificates x = new PlanCertificates();
        dueTold(x, 0, 0, 0, 0, 0, 0, 0, 0);
        // A refused model is none, however far it was read.
        Checks.put(x, 2, 0, 9, 1, 0, 9, 1, 1, 1, 1, 9, 1, 0, 1, 1, 1, 1001);
        Checks.due("told(0)", x.told(0), 17);
        Checks.due("model()", x.model(), -26);
        dueTold(x, 0, 0, 0, 0, 0, 0, 0, 0);
    }

    private static void withoutACertificate() {
        PlanCertificates x = Checks.withModel(Fill.MODEL);
        dueTold(x, 0, 2, 1, 1, 0, 0, 0, 0);
        Checks.plan(x, 0, 0);
        dueTold(x, 0, 2, 1, 1, 1, 0, 0, 0);
        x.begin();
        dueTold(x, 0, 2, 1, 1, 1, 0, 0, 0);
        Checks.read(x, x.digest(), 6, 0, 0, 0, 1, 0, 4, 1);
        dueTold(x, 0, 2, 1, 1, 1, 2, 1, 9);
        Checks.put(x, Fill.MODEL);
        x.model();
        dueTold(x, 0, 2, 1, 1, 0, 0, 0, 0);
    }

    private static void onTheTape() {
        int[] counts = {0, 1, 999, 1000};
        for (int count : counts) {
            PlanCertificates x = new PlanCertificates();
            Fill.tape(x, count, 1);
            Checks.due("told(0)", x.told(0), count);
        }
        PlanCertificates x = new PlanCertificates();
        Fill.tape(x, 1000, 1);
        x.put(1, 1, 1, 1, 1);
        Checks.due("told(0) behind a refused put", x.told(0), 1000);
        x.drop();
        Checks.due("told(0) behind drop()", x.told(0), 0);
    }

    /** VARIABLES (1), RULES (2), TABLES (3): the least and the most that a model has. */
    private static void ofTheModel() {
        dueTold(Checks.withModel(1, 0, 0, 0, 0, 0), 0, 1, 0, 0);
        int[] m = new int[27 + 180 + 20];
        m[0] = 8;
        m[25] = 20;
        m[206] = 4;
        for (int t = 0; t < 4; t++) {
            m[208 + 5 * t] = 7;
            m[209 + 5 * t] = 1;
        }
        PlanCertificates x = Checks.withModel(m);
        dueTold(x, 0, 8, 20, 4);
        Checks.put(x, 1, 0, 0, 0, 0, 5);
        Checks.due("a refused model", x.model(), -15);
        dueTold(x, 0, 8, 20, 4);
        Checks.put(x, 1, 0, 0, 0, 0, 0);
        Checks.due("the next model", x.model(), 1);
        dueTold(x, 0, 1, 0, 0);
    }

    private static void plans() {
        PlanCertificates x = Checks.withModel(1, 0, 0, 0, 0, 0);
        for (int count = 0; count < 8; count++) {
            Checks.due("told(4)", x.told(4), count);
            Checks.plan(x, count);
        }
        Checks.due("told(4)", x.told(4), 8);
        Checks.plan(x, 9);
        Checks.due("told(4) behind the ninth", x.told(4), 8);
    }

    private static void rowsAndBranches() {
        PlanCertificates x = Fill.begun();
        Fill.branches(x, 59);
        Checks.due("told(5)", x.told(5), 59);
        Checks.due("told(6)", x.told(6), 59);
        Checks.read(x, 6, 0, 0);
        Checks.due("told(6) before its last number", x.told(6), 59);
        Checks.read(x, 1);
        Checks.due("told(6)", x.told(6), 60);
        Checks.read(x, 1, 0, 6);
        Checks.due("told(5) behind the 61st BRANCH", x.told(5), 61);
        Checks.due("told(6) behind the 61st BRANCH", x.told(6), 60);
        x = Fill.begun();
        Fill.rows(x, 199, 1, 0);
        Checks.due("told(5)", x.told(5), 199);
        Checks.read(x, 1);
        Checks.due("told(5) before its last number", x.told(5), 199);
        Checks.read(x, 0);
        Checks.due("told(5)", x.told(5), 200);
        Checks.read(x, 1);
        Checks.due("told(5) behind the 201st", x.told(5), 200);
        Checks.due("told(6)", x.told(6), 0);
    }

    private static void numbersOfTheCertificate() {
        PlanCertificates x = Fill.begun();
        Checks.put(x, x.digest());
        Checks.due("on the tape alone", x.told(7), 0);
        x.read();
        Checks.due("the digest", x.told(7), 1);
        x.begin();
        Fill.read(x, 1499);
        Checks.due("told(7)", x.told(7), 1499);
        Checks.read(x, 1);
        Checks.due("told(7)", x.told(7), 1500);
        Checks.read(x, 1);
        Checks.due("told(7) behind the 1501st", x.told(7), 1500);
    }

    /** With the number of the FAULT, without what came behind it. */
    private static void behindAFault() {
        PlanCertificates x = Fill.begun();
        Checks.read(x, x.digest() + 1, 1, 0);
        dueTold(x, 0, 2, 1, 1, 2, 0, 0, 1);
        x.begin();
        Checks.read(x, x.digest(), 6, 0, 0, 0, 6, 0, 0, 2, 1, 0);
        dueTold(x, 0, 2, 1, 1, 2, 1, 1, 9);
        Checks.read(x, 1, 0);
        dueTold(x, 0, 2, 1, 1, 2, 1, 1, 9);
    }
}
