/** Promise 19: number. */
public final class Promise19Number {
    public static void main(String[] args) {
        withoutACertificate();
        fromZeroOn();
        beyond();
        withARowThatIsNotWhole();
        behindAFault();
        the1500th();
        the1501stIsNone();
        anyNumber();
        throwingChangesNothing();
        Checks.finish();
    }

    private static void withoutACertificate() {
        Checks.due("of a new object", Checks.number(new PlanCertificates(), 0), Checks.THROWS_INDEX);
        PlanCertificates x = Checks.withModel(Fill.MODEL);
        Checks.due("before begin()", Checks.number(x, 0), Checks.THROWS_INDEX);
        x.begin();
        Checks.due("behind begin()", Checks.number(x, 0), Checks.THROWS_INDEX);
        Checks.put(x, x.digest());
        Checks.due("on the tape alone", Checks.number(x, 0), Checks.THROWS_INDEX);
        x.read();
        Checks.due("read", Checks.number(x, 0), x.digest());
        Checks.put(x, Fill.MODEL);
        x.model();
        Checks.due("of another model", Checks.number(x, 0), Checks.THROWS_INDEX);
    }

    private static void fromZeroOn() {
        PlanCertificates x = Fill.begun();
        Checks.read(x, x.digest(), 3, 0, -100, 100, 1, 1);
        Checks.dueNumbers(x, x.digest(), 3, 0, -100, 100, 1, 1);
    }

    /** IndexOutOfBoundsException: none such. */
    private static void beyond() {
        PlanCertificates x = Fill.begun();
        Checks.read(x, x.digest(), 1, 0);
        int[] wrong = {Integer.MIN_VALUE, -2, -1, 3, 4, 1499, 1500, 1501, Integer.MAX_VALUE};
        for (int i : wrong) {
            Checks.due("number(" + i + ")", Checks.number(x, i), Checks.THROWS_INDEX);
        }
        Checks.due("number(0)", Checks.number(x, 0), x.digest());
        Checks.due("number(2)", Checks.number(x, 2), 0);
    }

    private static void withARowThatIsNotWhole() {
        PlanCertificates x = Fill.begun();
        Checks.read(x, x.digest(), 1, 0, 4, 2, 0);
        Checks.dueNumbers(x, x.digest(), 1, 0, 4, 2, 0);
        Checks.read(x, 7);
        Checks.dueNumbers(x, x.digest(), 1, 0, 4, 2, 0, 7);
        x.begin();
        Checks.read(x, x.digest(), 2);
        Checks.dueNumbers(x, x.digest(), 2);
    }

    /** Behind a FAULT with that one as the last. */
    private static void behindAFault() {
        PlanCertificates x = Fill.begun();
        Checks.read(x, 5, 6, 7);
        Checks.dueNumbers(x, 5);
        x.begin();
        Checks.read(x, x.digest(), 10, 1, 0);
        Checks.dueNumbers(x, x.digest(), 10);
        x.begin();
        Checks.read(x, x.digest(), 1, -3, 1, 0);
        Checks.dueNumbers(x, x.digest(), 1, -3);
        x.begin();
        Checks.read(x, x.digest(), 1, 0, 5, 0, 2);
        Checks.read(x, 1, 0);
        Checks.dueNumbers(x, x.digest(), 1, 0, 5, 0, 2);
        x.begin();
        Fill.rows(x, 201, 1, 0);
        Checks.due("the KIND of the 201st ROW", Checks.number(x, 401), 1);
        Checks.due("behind it", Checks.number(x, 402), Checks.THROWS_INDEX);
    }

    private static void the1500th() {
        PlanCertificates x = Fill.begun();
        Fill.read(x, 1499);
        Checks.due("number(1498)", Checks.number(x, 1498), 1);
        Checks.due("number(1499)", Checks.number(x, 1499), Checks.THROWS_INDEX);
        Checks.read(x, 9);
        Checks.due("number(1499)", Checks.number(x, 1499), 9);
        Checks.due("number(1500)", Checks.number(x, 1500), Checks.THROWS_INDEX);
        // As the one of a FAULT, too.
        x = Fill.begun();
        Fill.read(x, 1499);
        Checks.read(x, 77);
        Checks.due("fault(2)", x.fault(2), 1499);
        Checks.due("number(1499)", Checks.number(x, 1499), 77);
    }

    private static void the1501stIsNone() {
        PlanCertificates x = Fill.begun();
        Fill.read(x, 1499);
        Checks.read(x, 9, 77);
        Checks.due("fault(2)", x.fault(2), 1500);
        Checks.due("number(1499)", Checks.number(x, 1499), 9);
        Checks.due("number(1500)", Checks.number(x, 1500), Checks.THROWS_INDEX);
        Checks.due("number(1501)", Checks.number(x, 1501), Checks.THROWS_INDEX);
    }

    private static void anyNumber() {
        int[] numbers = {Integer.MIN_VALUE, -1, Integer.MAX_VALUE};
        for (int number : numbers) {
            PlanCertificates x = Fill.begun();
            Checks.read(x, x.digest(), number);
            Checks.dueNumbers(x, x.digest(), number);
        }
    }

    private static void throwingChangesNothing() {
        int[] wrong = {-1, 1500};
        for (int i : wrong) {
            Twins.unchanged("number(" + i + ")",
                    x -> Checks.due("number()", Checks.number(x, i), Checks.THROWS_INDEX));
        }
    }
}
