/** Promise 2: put. n is 1 to 4; the tape has 1000 numbers at most. */
public final class Promise02Put {
    public static void main(String[] args) {
        howMany();
        onlyTheFirstComeInTheirOrder();
        anyNumberComes();
        nOutside();
        nOutsideChangesNothing();
        roomAtTheBound();
        noneComesWithoutRoom();
        outsideAheadOfRoom();
        roomAgain();
        Checks.finish();
    }

    private static void howMany() {
        for (int n = 1; n <= 4; n++) {
            PlanCertificates x = new PlanCertificates();
            Checks.due("the first put of " + n, x.put(n, 1, 2, 3, 4), n);
            Checks.due("the second put of " + n, x.put(n, 1, 2, 3, 4), 2 * n);
            Checks.due("told(0)", x.told(0), 2 * n);
        }
    }

    /** The first n (1 to 4) of these numbers come behind the tape. */
    private static void onlyTheFirstComeInTheirOrder() {
        int digest = ((((((17 * 31 + 1) * 31 - 7) * 31 + 900) * 31 + 55) * 31) * 31);
        PlanCertificates x = new PlanCertificates();
        x.put(1, 1, 77, 77, 77);
        x.put(2, -7, 900, 77, 77);
        x.put(3, 55, 0, 0, 77);
        Checks.due("model() of 1, 2 and 3 numbers", x.model(), 1);
        Checks.due("digest()", x.digest(), digest);
        x.put(4, 1, -7, 900, 55);
        x.put(1, 0, 77, 77, 77);
        x.put(1, 0, 77, 77, 77);
        Checks.due("model() of 4, 1 and 1 numbers", x.model(), 1);
        Checks.due("digest()", x.digest(), digest);
    }

    private static void anyNumberComes() {
        int[] numbers = {Integer.MIN_VALUE, -1, 0, Integer.MAX_VALUE};
        for (int number : numbers) {
            PlanCertificates x = Fill.begun();
            Checks.due("put of " + number, x.put(1, number, 5, 5, 5), 1);
            Checks.due("read() of another digest", x.read(), -11);
            Checks.due("number(0)", Checks.number(x, 0), number);
        }
    }

    private static void nOutside() {
        int[] wrong = {Integer.MIN_VALUE, -4, -1, 0, 5, 6, Integer.MAX_VALUE};
        for (int n : wrong) {
            Checks.due("put of " + n, new PlanCertificates().put(n, 1, 2, 3, 4), PlanCertificates.OUTSIDE);
        }
    }

    private static void nOutsideChangesNothing() {
        int[] wrong = {-1, 0, 5};
        for (int n : wrong) {
            Twins.unchanged("put of " + n,
                    x -> Checks.due("put of " + n, x.put(n, 8, 8, 8, 8), PlanCertificates.OUTSIDE));
        }
    }

    private static void roomAtTheBound() {
        for (int n = 1; n <= 4; n++) {
            PlanCertificates x = new PlanCertificates();
            Fill.tape(x, 999 - n, 1);
            Checks.due("put of " + n + " up to 999", x.put(n, 1, 1, 1, 1), 999);
            x = new PlanCertificates();
            Fill.tape(x, 1000 - n, 1);
            Checks.due("put of " + n + " up to 1000", x.put(n, 1, 1, 1, 1), 1000);
            x = new PlanCertificates();
            Fill.tape(x, 1001 - n, 1);
            Checks.due("put of " + n + " up to 1001", x.put(n, 1, 1, 1, 1), PlanCertificates.ROOM);
            Checks.due("told(0)", x.told(0), 1001 - n);
            x = new PlanCertificates();
            Fill.tape(x, 1000, 1);
            Checks.due("put of " + n + " on a full tape", x.put(n, 1, 1, 1, 1), PlanCertificates.ROOM);
            Checks.due("told(0)", x.told(0), 1000);
        }
    }

    /** ROOM: none of them comes, not even those that would have room. */
    private static void noneComesWithoutRoom() {
        PlanCertificates x = Fill.begun();
        Checks.put(x, Fill.numbers(x.digest(), 997));
        Checks.due("four where three have room", x.put(4, 10, 10, 10, 10), PlanCertificates.ROOM);
        Checks.due("told(0)", x.told(0), 997);
        Checks.due("three come", x.put(3, 2, 1, 2, 10), 1000);
        Checks.due("a fifth", x.put(1, 10, 10, 10, 10), PlanCertificates.ROOM);
        Checks.due("no number but these was read", x.read() >= 0 ? 1 : 0, 1);
        Checks.due("told(7)", x.told(7), 1000);
        Checks.due("number(997)", Checks.number(x, 997), 2);
        Checks.due("number(998)", Checks.number(x, 998), 1);
        Checks.due("number(999)", Checks.number(x, 999), 2);
    }

    private static void outsideAheadOfRoom() {
        PlanCertificates x = new PlanCertificates();
        Fill.tape(x, 1000, 1);
        Checks.due("put of 0 on a full tape", x.put(0, 1, 1, 1, 1), PlanCertificates.OUTSIDE);
        Checks.due("put of -1 on a full tape", x.put(-1, 1, 1, 1, 1), PlanCertificates.OUTSIDE);
        Checks.due("put of 5 on a full tape", x.put(5, 1, 1, 1, 1), PlanCertificates.OUTSIDE);
        Checks.due("told(0)", x.told(0), 1000);
    }

    /** Whatever uses a full tape up makes room again. */
    private static void roomAgain() {
        PlanCertificates x = new PlanCertificates();
        Fill.tape(x, 1000, 1);
        x.drop();
        Checks.due("put behind drop()", x.put(4, 1, 1, 1, 1), 4);
        x = new PlanCertificates();
        Fill.tape(x, 1000, 1);
        x.model();
        Checks.due("put behind model()", x.put(4, 1, 1, 1, 1), 4);
        x = new PlanCertificates();
        Fill.tape(x, 1000, 1);
        x.plan();
        Checks.due("put behind plan()", x.put(4, 1, 1, 1, 1), 4);
        x = new PlanCertificates();
        Fill.tape(x, 1000, 1);
        x.read();
        Checks.due("put behind read()", x.put(4, 1, 1, 1, 1), 4);
    }
}
