import java.util.function.Consumer;

/**
 * What is refused or throws changes nothing: two objects come to the same state by the same calls,
 * one of them has a refused call more, and both must answer alike, then and when they go on.
 */
final class Twins {
    static final int NEW = 0;
    static final int NEW_WITH_TAPE = 1;
    static final int MODEL_WITH_TAPE = 2;
    static final int BEGUN = 3;
    static final int IN_A_ROW = 4;
    static final int BEHIND_A_FAULT = 5;
    static final int PROVED = 6;
    static final int STATES = 7;

    /** x and y are 0 to 9 and cost 1 and 2; 2x - 4y <= 7; (x, y) is (0, 0), (1, 5) or (2, 3). */
    static final int[] MODEL = {2, 0, 9, 1, 0, 9, 2, 1, 2, -4, 7, 1, 0, 1, 3, 0, 0, 1, 5, 2, 3};

    private Twins() {
    }

    static boolean hasModel(int state) {
        return state >= MODEL_WITH_TAPE;
    }

    static boolean hasBegun(int state) {
        return state >= BEGUN;
    }

    static PlanCertificates inState(int state) {
        PlanCertificates x = new PlanCertificates();
        if (state == NEW) {
            return x;
        }
        if (state == NEW_WITH_TAPE) {
            Checks.put(x, 1, 0, 5);
            return x;
        }
        Checks.put(x, MODEL);
        x.model();
        if (state == MODEL_WITH_TAPE) {
            Checks.put(x, 2, 3);
            return x;
        }
        Checks.plan(x, 0, 0);
        Checks.plan(x, 1, 4);
        x.begin();
        if (state == BEGUN) {
            Checks.put(x, x.digest(), 1);
            return x;
        }
        Checks.read(x, x.digest(), 1, 0, 6, 1, 3, 0, 0, 0, 2, 0, 2, 1);
        if (state == IN_A_ROW) {
            Checks.read(x, 4, 2, 1);
            Checks.put(x, 3, 2, 1);
        } else if (state == BEHIND_A_FAULT) {
            Checks.read(x, 5, 2, 3);
            Checks.put(x, 2, 1);
        } else {
            Checks.read(x, 8, 0, 4, 3, 3, 1, 4, 2, 5, 1);
            Checks.put(x, 2, 1);
        }
        return x;
    }

    /** The tape's numbers show only when something reads them. */
    private static void goOn(PlanCertificates x, int state) {
        if (state <= NEW_WITH_TAPE) {
            Checks.put(x, 1, 0, 0);
            x.model();
        } else if (state == MODEL_WITH_TAPE) {
            x.plan();
        } else {
            x.put(1, 1, 0, 0, 0);
            x.read();
        }
    }

    /** In each state; the call looks at its own answer. */
    static void unchanged(String call, Consumer<PlanCertificates> refused) {
        for (int state = 0; state < STATES; state++) {
            unchangedIn(state, call, refused, x -> { });
        }
    }

    /** The other twin has another call instead: drop(), where the refused one uses the tape up. */
    static void unchangedIn(int state, String call, Consumer<PlanCertificates> refused,
            Consumer<PlanCertificates> instead) {
        PlanCertificates x = inState(state);
        PlanCertificates y = inState(state);
        refused.accept(x);
        instead.accept(y);
        String where = " behind " + call + " in state " + state;
        Checks.dueText("all" + where, Checks.state(x), Checks.state(y));
        goOn(x, state);
        goOn(y, state);
        Checks.dueText("what comes then" + where, Checks.state(x), Checks.state(y));
    }
}
