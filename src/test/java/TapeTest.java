/** Promises 1 (a new object), 2 (put), 3 (drop) and 20 (told). */
public final class TapeTest {
    public static void main(String[] args) {
        newObject();
        puts();
        drops();
        fullTape();
        tells();
        Checks.finish();
    }

    private static void newObject() {
        PlanCertificates x = new PlanCertificates();
        for (int what = 0; what <= 7; what++) {
            Checks.due("told(" + what + ") of a new object", x.told(what), 0);
        }
        Checks.due("digest()", x.digest(), 0);
        Checks.due("breaks(0)", x.breaks(0), PlanCertificates.UNKNOWN);
        Checks.due("cost(0)", Checks.cost(x, 0), Checks.THROWS_INDEX);
        Checks.due("begin()", x.begin(), PlanCertificates.STATE);
        Checks.dueFault(x, 0, -1, -1);
        Checks.due("row(0, 8)", Checks.row(x, 0, 8), Checks.THROWS_INDEX);
        Checks.due("assumes(0, 0)", Checks.assumes(x, 0, 0), Checks.THROWS_INDEX);
        Checks.due("holds(0, 0)", Checks.holds(x, 0, 0), Checks.THROWS_INDEX);
        Checks.due("proved()", x.proved(), 0);
        Checks.due("best()", Checks.best(x), Checks.THROWS_STATE);
        Checks.due("least()", Checks.least(x), Checks.THROWS_STATE);
        Checks.due("trim(0)", Checks.trim(x, 0), Checks.THROWS_INDEX);
        Checks.due("number(0)", Checks.number(x, 0), Checks.THROWS_INDEX);
        Checks.due("drop()", x.drop(), 0);
    }

    private static void puts() {
        PlanCertificates x = new PlanCertificates();
        Checks.due("put of 0", x.put(0, 1, 2, 3, 4), PlanCertificates.OUTSIDE);
        Checks.due("put of 5", x.put(5, 1, 2, 3, 4), PlanCertificates.OUTSIDE);
        Checks.due("put of -1", x.put(-1, 1, 2, 3, 4), PlanCertificates.OUTSIDE);
        Checks.due("put of the least n", x.put(Integer.MIN_VALUE, 1, 2, 3, 4), PlanCertificates.OUTSIDE);
        Checks.due("put of the greatest n", x.put(Integer.MAX_VALUE, 1, 2, 3, 4), PlanCertificates.OUTSIDE);
        Checks.due("told(0)", x.told(0), 0);
        Checks.due("put of 1", x.put(1, 1, 9, 9, 9), 1);
        Checks.due("put of 2", x.put(2, -1000, 1000, 9, 9), 3);
        Checks.due("put of 3", x.put(3, 100, 0, 0, 9), 6);
        Checks.due("model() of what was put", x.model(), 1);
        Checks.due("put of 4", x.put(4, 1, 2, 3, 4), 4);
    }

    private static void drops() {
        PlanCertificates x = new PlanCertificates();
        Checks.put(x, 9, 9, 9, 9, 9, 9, 9);
        Checks.due("drop()", x.drop(), 7);
        Checks.due("drop() again", x.drop(), 0);
        Checks.due("told(0)", x.told(0), 0);
        Checks.put(x, 1, 0, 5, 1, 0, 0);
        Checks.due("model() behind drop()", x.model(), 1);
    }

    private static void fullTape() {
        PlanCertificates x = new PlanCertificates();
        for (int i = 0; i < 249; i++) {
            x.put(4, 1, 1, 1, 1);
        }
        Checks.due("put of 3", x.put(3, 1, 1, 1, 1), 999);
        Checks.due("put of 2 where 1 has room", x.put(2, 1, 1, 1, 1), PlanCertificates.ROOM);
        Checks.due("told(0)", x.told(0), 999);
        Checks.due("n ahead of room", x.put(5, 1, 1, 1, 1), PlanCertificates.OUTSIDE);
        Checks.due("the 1000th", x.put(1, 1, 1, 1, 1), 1000);
        Checks.due("the 1001st", x.put(1, 1, 1, 1, 1), PlanCertificates.ROOM);
        Checks.due("told(0)", x.told(0), 1000);
        Checks.due("drop()", x.drop(), 1000);
        Checks.due("put behind drop", x.put(4, 1, 1, 1, 1), 4);
    }

    private static void tells() {
        PlanCertificates x = Checks.withModel(2, 0, 3, 1, 0, 3, -1, 3, 1, 1, 9, 1, 0, 9, 0, 1, 9,
                2, 0, 1, 1, 0, 0, 1, 0, 1, 1, 1);
        Checks.plan(x, 0, 0);
        Checks.plan(x, 1, 1);
        Checks.begin(x);
        Checks.read(x, 6, 0, 1, 0, 6, 0, 1, 1, 1, 0, 4);
        Checks.put(x, 7, 7, 7, 7, 7);
        int[] due = {5, 2, 3, 2, 2, 3, 2, 12};
        for (int what = 0; what <= 7; what++) {
            Checks.due("told(" + what + ")", x.told(what), due[what]);
        }
        Checks.due("told(-1)", x.told(-1), PlanCertificates.OUTSIDE);
        Checks.due("told(8)", x.told(8), PlanCertificates.OUTSIDE);
        Checks.due("told of the least", x.told(Integer.MIN_VALUE), PlanCertificates.OUTSIDE);
        Checks.due("told of the greatest", x.told(Integer.MAX_VALUE), PlanCertificates.OUTSIDE);
        x.drop();
        Checks.put(x, 1, 0, 0, 0, 0, 0);
        Checks.due("another model", x.model(), 1);
        int[] then = {0, 1, 0, 0, 0, 0, 0, 0};
        for (int what = 0; what <= 7; what++) {
            Checks.due("then told(" + what + ")", x.told(what), then[what]);
        }
    }
}
