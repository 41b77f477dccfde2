/** Promises 5 (plan), 6 (breaks) and 7 (cost). */
public final class PlanTest {
    public static void main(String[] args) {
        plans();
        room();
        breaking();
        oldModelsAreForgotten();
        costs();
        Checks.finish();
    }

    private static void plans() {
        PlanCertificates x = new PlanCertificates();
        Checks.due("plan() without a model", Checks.plan(x, 1, 2, 3), PlanCertificates.STATE);
        Checks.due("the tape is used up", x.told(0), 0);
        x = Checks.withModel(2, 0, 5, 1, 0, 5, 1, 0, 0);
        Checks.due("too few", Checks.plan(x, 1), PlanCertificates.OUTSIDE);
        Checks.due("the tape is used up", x.told(0), 0);
        Checks.due("none", x.plan(), PlanCertificates.OUTSIDE);
        Checks.due("too many", Checks.plan(x, 1, 2, 3), PlanCertificates.OUTSIDE);
        Checks.due("beyond", Checks.plan(x, 1000001, 0), PlanCertificates.OUTSIDE);
        Checks.due("beyond", Checks.plan(x, 0, -1000001), PlanCertificates.OUTSIDE);
        Checks.due("far beyond", Checks.plan(x, 0, Integer.MIN_VALUE), PlanCertificates.OUTSIDE);
        Checks.due("no plan stands", x.told(4), 0);
        Checks.due("the edges", Checks.plan(x, 1000000, -1000000), 0);
        Checks.due("the tape is used up", x.told(0), 0);
        Checks.due("another", Checks.plan(x, 1, 1), 1);
        Checks.due("the same again", Checks.plan(x, 1, 1), 2);
        Checks.due("told(4)", x.told(4), 3);
    }

    private static void room() {
        PlanCertificates x = Checks.withModel(1, 0, 5, 1, 0, 0);
        for (int i = 0; i < 8; i++) {
            Checks.due("plan " + i, Checks.plan(x, i), i);
        }
        Checks.due("the ninth", Checks.plan(x, 8), PlanCertificates.ROOM);
        Checks.due("the tape is used up", x.told(0), 0);
        Checks.due("outside ahead of room", Checks.plan(x, 8, 8), PlanCertificates.OUTSIDE);
        Checks.due("told(4)", x.told(4), 8);
        for (int i = 0; i < 8; i++) {
            Checks.due("cost(" + i + ")", Checks.cost(x, i), i);
        }
        Checks.due("breaks(5)", x.breaks(5), -1);
        Checks.due("breaks(6)", x.breaks(6), 0);
        Checks.due("breaks(8)", x.breaks(8), PlanCertificates.UNKNOWN);
        Checks.due("breaks(-1)", x.breaks(-1), PlanCertificates.UNKNOWN);
        Checks.due("breaks of the least", x.breaks(Integer.MIN_VALUE), PlanCertificates.UNKNOWN);
        Checks.due("cost(8)", Checks.cost(x, 8), Checks.THROWS_INDEX);
        Checks.due("cost(-1)", Checks.cost(x, -1), Checks.THROWS_INDEX);
        Checks.due("cost of the greatest", Checks.cost(x, Integer.MAX_VALUE), Checks.THROWS_INDEX);
    }

    private static int broken(int... numbers) {
        // x is 0 to 9, y -3 to 3, z 5 alone; x + 2y <= 10; -x - y <= 0; z - x <= 5;
        // (y, x) is (0, 0), (1, 2) or (3, 4); (z, x) is (5, 4), (5, 0) or (5, 2).
        PlanCertificates x = Checks.withModel(3, 0, 9, 1, -3, 3, 1, 5, 5, 1,
                3, 1, 2, 0, 10, -1, -1, 0, 0, -1, 0, 1, 5,
                2, 1, 0, 3, 0, 0, 1, 2, 3, 4, 2, 0, 3, 5, 4, 5, 0, 5, 2);
        Checks.plan(x, numbers);
        return x.breaks(0);
    }

    private static void breaking() {
        Checks.due("good", broken(0, 0, 5), -1);
        Checks.due("good at the edge of a rule", broken(4, 3, 5), -1);
        Checks.due("x below", broken(-1, 9, 9), 0);
        Checks.due("x above", broken(10, 0, 5), 0);
        Checks.due("y below", broken(0, -4, 9), 1);
        Checks.due("y above", broken(9, 4, 5), 1);
        Checks.due("z below", broken(9, 3, 4), 2);
        Checks.due("z above", broken(9, 3, 6), 2);
        Checks.due("rule 0", broken(5, 3, 5), 100);
        Checks.due("rule 1", broken(0, -1, 5), 101);
        Checks.due("table 0", broken(1, 1, 5), 200);
        Checks.due("table 0, a pair the other way", broken(1, 2, 5), 200);
        Checks.due("good", broken(2, 1, 5), -1);
        PlanCertificates x = Checks.withModel(2, 0, 9, 1, 0, 9, 1, 0, 2, 0, 1, 1, 3, 4, 1, 0, 1, 4, 4);
        Checks.plan(x, 3, 4);
        Checks.due("the second table", x.breaks(0), 201);
    }

    private static void oldModelsAreForgotten() {
        PlanCertificates x = new PlanCertificates();
        for (int i = 0; i < 3; i++) {
            // Two rules that nothing keeps, and two tables.
            Checks.put(x, 2, 0, 9, 1, 0, 9, 1, 2, 0, 0, -5, 0, 0, -5,
                    2, 0, 1, 3, 9, 9, 8, 8, 7, 7, 1, 0, 2, 9, 9, 8, 8);
            Checks.due("model()", x.model(), 1);
            Checks.plan(x, 9, 9);
            Checks.due("breaks(0)", x.breaks(0), 100);
        }
        for (int i = 0; i < 3; i++) {
            Checks.put(x, 2, 0, 9, 1, 0, 9, 1, 0, 1, 0, 1, 1, 9, 9);
            Checks.due("model()", x.model(), 1);
            Checks.plan(x, 9, 9);
            Checks.plan(x, 8, 8);
            Checks.plan(x, 0, 0);
            Checks.due("no old rule is broken", x.breaks(0), -1);
            Checks.due("an old pair does not count", x.breaks(1), 200);
            Checks.due("(0, 0) is no pair", x.breaks(2), 200);
        }
        for (int i = 0; i < 3; i++) {
            Checks.put(x, 1, 0, 9, 1, 0, 0);
            Checks.due("model()", x.model(), 1);
            Checks.plan(x, 8);
            Checks.due("nothing old is broken", x.breaks(0), -1);
            Checks.due("no old cost", Checks.cost(x, 0), 8);
        }
    }

    private static void costs() {
        PlanCertificates x = Checks.withModel(8, 0, 0, 100, 0, 0, 100, 0, 0, 100, 0, 0, 100,
                0, 0, 100, 0, 0, 100, 0, 0, 100, 0, 0, 100, 0, 0);
        int m = 1000000;
        Checks.plan(x, m, m, m, m, m, m, m, m);
        Checks.plan(x, -m, -m, -m, -m, -m, -m, -m, -m);
        Checks.due("the greatest cost", Checks.cost(x, 0), 800000000L);
        Checks.due("the least cost", Checks.cost(x, 1), -800000000L);
        x = Checks.withModel(3, 0, 9, 3, 0, 9, 0, 0, 9, -7, 0, 0);
        Checks.plan(x, 2, 5, 4);
        Checks.due("a cost", Checks.cost(x, 0), 6 - 28);
    }
}
