/** Promise 11: fault. */
public final class Promise11Fault {
    public static void main(String[] args) {
        outside();
        outsideChangesNothing();
        withoutACertificate();
        withoutAFault();
        ofTheDigest();
        ofTheFirstAndTheLastRow();
        ofTheLastNumber();
        itStays();
        itEnds();
        Checks.finish();
    }

    private static void outside() {
        int[] wrong = {Integer.MIN_VALUE, -2, -1, 3, 4, Integer.MAX_VALUE};
        for (int state = 0; state < Twins.STATES; state++) {
            PlanCertificates x = Twins.inState(state);
            for (int what : wrong) {
                Checks.due("fault(" + what + ") in state " + state, x.fault(what), PlanCertificates.OUTSIDE);
            }
        }
    }

    private static void outsideChangesNothing() {
        int[] wrong = {-1, 3};
        for (int what : wrong) {
            Twins.unchanged("fault(" + what + ")",
                    x -> Checks.due("fault()", x.fault(what), PlanCertificates.OUTSIDE));
        }
    }

    /** 0, NONE, NONE without a certificate. */
    private static void withoutACertificate() {
        Checks.dueFault(new PlanCertificates(), 0, PlanCertificates.NONE, PlanCertificates.NONE);
        PlanCertificates x = Checks.withModel(Fill.MODEL);
        Checks.dueFault(x, 0, PlanCertificates.NONE, PlanCertificates.NONE);
        Checks.due("read() without one", Checks.read(x, 10), PlanCertificates.STATE);
        Checks.dueFault(x, 0, PlanCertificates.NONE, PlanCertificates.NONE);
    }

    private static void withoutAFault() {
        PlanCertificates x = Fill.begun();
        Checks.dueFault(x, 0, -1, -1);
        Checks.read(x, x.digest());
        Checks.dueFault(x, 0, -1, -1);
        Checks.read(x, 1);
        Checks.dueFault(x, 0, -1, -1);
        Checks.read(x, 0);
        Checks.dueFault(x, 0, -1, -1);
    }

    /** The number of the ROW that it stopped (NONE: the DIGEST); which number it was (from 0 on). */
    private static void ofTheDigest() {
        PlanCertificates x = Fill.begun();
        Checks.read(x, x.digest() + 1);
        Checks.dueFault(x, 1, PlanCertificates.NONE, 0);
    }

    private static void ofTheFirstAndTheLastRow() {
        PlanCertificates x = Fill.begun();
        Checks.read(x, x.digest(), 10);
        Checks.dueFault(x, 2, 0, 1);
        x = Fill.begun();
        Checks.read(x, x.digest(), 1, 2);
        Checks.dueFault(x, 3, 0, 2);
        x = Fill.begun();
        Checks.read(x, x.digest(), 1, 0, 10);
        Checks.dueFault(x, 2, 1, 3);
        x = Fill.begun();
        Fill.rows(x, 199, 1, 0);
        Checks.read(x, 1, 2);
        Checks.dueFault(x, 3, 199, 400);
        x = Fill.begun();
        Fill.rows(x, 201, 1, 0);
        Checks.dueFault(x, 9, 200, 401);
    }

    private static void ofTheLastNumber() {
        PlanCertificates x = Fill.begun();
        int rows = Fill.read(x, 1499);
        Checks.read(x, 10);
        Checks.dueFault(x, 2, rows, 1499);
        x = Fill.begun();
        rows = Fill.read(x, 1500);
        Checks.read(x, 10);
        Checks.dueFault(x, 9, rows, 1500);
    }

    /** A FAULT stays, whatever else is called, or refused. */
    private static void itStays() {
        PlanCertificates x = Fill.begun();
        Checks.read(x, x.digest(), 1, 0, 1, 9);
        Checks.dueFault(x, 3, 1, 4);
        Checks.read(x, 10);
        Checks.dueFault(x, 3, 1, 4);
        Checks.plan(x, 0, 0);
        Checks.put(x, 9);
        x.model();
        Checks.trim(x, 1);
        Checks.trim(x, -1);
        x.drop();
        Checks.dueFault(x, 3, 1, 4);
    }

    private static void itEnds() {
        PlanCertificates x = Fill.begun();
        Checks.read(x, x.digest(), 1, 0, 1, 9);
        x.begin();
        Checks.dueFault(x, 0, -1, -1);
        Checks.read(x, x.digest(), 1, 0, 1, 9);
        Checks.trim(x, 0);
        Checks.dueFault(x, 0, -1, -1);
        Checks.read(x, 1, 9);
        Checks.dueFault(x, 3, 1, 4);
        Checks.put(x, Fill.MODEL);
        x.model();
        Checks.dueFault(x, 0, -1, -1);
    }
}
