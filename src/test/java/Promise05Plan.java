/** Promise 5: plan. V numbers, -1000000 to 1000000; at most 8 plans. */
public final class Promise05Plan {
    private static final int MOST = 1000000;

    public static void main(String[] args) {
        numberedFromZero();
        asManyNumbersAsVariables();
        boundsOfEachNumber();
        beyondLowAndHigh();
        withoutAModel();
        stateAheadOfOutside();
        roomForEight();
        outsideAheadOfRoom();
        theTapeIsUsedUp();
        refusedChangesNothing();
        Checks.finish();
    }

    private static int[] model(int variables) {
        int[] m = new int[3 * variables + 3];
        m[0] = variables;
        for (int v = 0; v < variables; v++) {
            m[3 * v + 3] = 1;
        }
        return m;
    }

    private static void numberedFromZero() {
        PlanCertificates x = Checks.withModel(model(2));
        for (int plan = 0; plan < 8; plan++) {
            Checks.due("plan " + plan, Checks.plan(x, plan, 0), plan);
            Checks.due("told(4)", x.told(4), plan + 1);
        }
        Checks.put(x, model(1));
        x.model();
        Checks.due("of the next model", Checks.plan(x, 0), 0);
        Checks.due("the same again", Checks.plan(x, 0), 1);
    }

    /** OUTSIDE: not V numbers. */
    private static void asManyNumbersAsVariables() {
        for (int v = 1; v <= 8; v++) {
            for (int n = 0; n <= 12; n++) {
                PlanCertificates x = Checks.withModel(model(v));
                Fill.tape(x, n, 1);
                Checks.due(n + " numbers of " + v, x.plan(), n == v ? 0 : PlanCertificates.OUTSIDE);
                Checks.due("told(4)", x.told(4), n == v ? 1 : 0);
            }
        }
        PlanCertificates x = Checks.withModel(model(8));
        Fill.tape(x, 1000, 1);
        Checks.due("a full tape", x.plan(), PlanCertificates.OUTSIDE);
    }

    /** A whole number for each VARIABLE (-1000000 to 1000000). */
    private static void boundsOfEachNumber() {
        int[] right = {-MOST, -MOST + 1, 0, MOST - 1, MOST};
        int[] wrong = {Integer.MIN_VALUE, -MOST - 1, MOST + 1, Integer.MAX_VALUE};
        for (int v = 0; v < 8; v++) {
            for (int number : right) {
                PlanCertificates x = Checks.withModel(model(8));
                Checks.due(number + " of " + v, plan(x, v, number), 0);
                Checks.due("cost(0)", Checks.cost(x, 0), number);
            }
            for (int number : wrong) {
                PlanCertificates x = Checks.withModel(model(8));
                Checks.due(number + " of " + v, plan(x, v, number), PlanCertificates.OUTSIDE);
                Checks.due("told(4)", x.told(4), 0);
            }
        }
    }

    private static int plan(PlanCertificates x, int v, int number) {
        int[] numbers = new int[8];
        numbers[v] = number;
        return Checks.plan(x, numbers);
    }

    /** A plan that is not GOOD is told too. */
    private static void beyondLowAndHigh() {
        PlanCertificates x = Checks.withModel(1, 3, 5, 1, 1, 1, 4, 0);
        Checks.due("below LOW", Checks.plan(x, 2), 0);
        Checks.due("above HIGH", Checks.plan(x, 6), 1);
        Checks.due("beyond the rule", Checks.plan(x, 5), 2);
    }

    private static void withoutAModel() {
        PlanCertificates x = new PlanCertificates();
        Checks.due("one number", Checks.plan(x, 1), PlanCertificates.STATE);
        Checks.put(x, 1, 5, 4);
        x.model();
        Checks.due("behind a refused model", Checks.plan(x, 1), PlanCertificates.STATE);
        Checks.due("told(4)", x.told(4), 0);
    }

    /** STATE: no model (ahead of OUTSIDE). */
    private static void stateAheadOfOutside() {
        PlanCertificates x = new PlanCertificates();
        Checks.due("an empty tape", x.plan(), PlanCertificates.STATE);
        Checks.due("a number beyond", Checks.plan(x, MOST + 1), PlanCertificates.STATE);
        Checks.due("nine numbers", Checks.plan(x, 0, 0, 0, 0, 0, 0, 0, 0, 0), PlanCertificates.STATE);
    }

    private static PlanCertificates withPlans(int count) {
        PlanCertificates x = Checks.withModel(model(1));
        for (int plan = 0; plan < count; plan++) {
            Checks.plan(x, 10 + plan);
        }
        return x;
    }

    /** At most 8 are told. */
    private static void roomForEight() {
        Checks.due("the seventh", Checks.plan(withPlans(6), 1), 6);
        Checks.due("the eighth", Checks.plan(withPlans(7), 1), 7);
        PlanCertificates x = withPlans(8);
        Checks.due("the ninth", Checks.plan(x, 1), PlanCertificates.ROOM);
        Checks.due("the ninth again", Checks.plan(x, 1), PlanCertificates.ROOM);
        Checks.due("told(4)", x.told(4), 8);
        for (int plan = 0; plan < 8; plan++) {
            Checks.due("cost(" + plan + ")", Checks.cost(x, plan), 10 + plan);
        }
        Checks.put(x, model(1));
        x.model();
        Checks.due("the first of another model", Checks.plan(x, 1), 0);
    }

    private static void outsideAheadOfRoom() {
        PlanCertificates x = withPlans(8);
        Checks.due("no number", x.plan(), PlanCertificates.OUTSIDE);
        Checks.due("two numbers", Checks.plan(x, 1, 1), PlanCertificates.OUTSIDE);
        Checks.due("a number beyond", Checks.plan(x, MOST + 1), PlanCertificates.OUTSIDE);
        Checks.due("as it should be", Checks.plan(x, MOST), PlanCertificates.ROOM);
    }

    /** plan() uses the TAPE up, whatever it answers. */
    private static void theTapeIsUsedUp() {
        PlanCertificates x = new PlanCertificates();
        Checks.due("STATE", Checks.plan(x, 1, 2, 3), PlanCertificates.STATE);
        Checks.due("told(0) behind STATE", x.told(0), 0);
        x = withPlans(7);
        Checks.due("OUTSIDE", Checks.plan(x, 1, 2, 3), PlanCertificates.OUTSIDE);
        Checks.due("told(0) behind OUTSIDE", x.told(0), 0);
        Checks.due("a plan", Checks.plan(x, 1), 7);
        Checks.due("told(0) behind a plan", x.told(0), 0);
        Checks.due("ROOM", Checks.plan(x, 1), PlanCertificates.ROOM);
        Checks.due("told(0) behind ROOM", x.told(0), 0);
    }

    private static void refusedChangesNothing() {
        for (int state = 0; state < Twins.STATES; state++) {
            int due = Twins.hasModel(state) ? PlanCertificates.OUTSIDE : PlanCertificates.STATE;
            Twins.unchangedIn(state, "plan() of too many", x -> {
                Checks.put(x, 1, 1, 1);
                Checks.due("plan()", x.plan(), due);
            }, PlanCertificates::drop);
            Twins.unchangedIn(state, "plan() of one beyond", x -> {
                x.drop();
                Checks.put(x, 5, MOST + 1);
                Checks.due("plan()", x.plan(), due);
            }, PlanCertificates::drop);
        }
        PlanCertificates x = withPlans(8);
        String before = Checks.state(x);
        Checks.due("the ninth", Checks.plan(x, 99), PlanCertificates.ROOM);
        Checks.dueText("behind the ninth", Checks.state(x), before);
    }
}
