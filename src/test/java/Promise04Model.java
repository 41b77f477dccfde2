import java.util.Arrays;

/** Promise 4: model. Each number has its bounds; the first that is not as told is named. */
public final class Promise04Model {
    private static final int LEAST = Integer.MIN_VALUE;
    private static final int GREATEST = Integer.MAX_VALUE;

    public static void main(String[] args) {
        howManyVariables();
        lowHighCost();
        howManyRules();
        factorsAndRight();
        howManyTables();
        twoDifferentVariables();
        howManyPairs();
        numbersOfPairs();
        nothingMore();
        oneLacks();
        theFirstWrongNumber();
        smallestAndGreatest();
        theTapeIsUsedUp();
        refusedLeavesAllElse();
        acceptedEndsPlansAndCertificate();
        Checks.finish();
    }

    /** A model with so many of all; each number may be changed without another one being wrong then. */
    private static int[] model(int variables, int rules, int tables, int pairs) {
        int[] m = new int[1 + 3 * variables + 1 + rules * (variables + 1) + 1 + tables * (3 + 2 * pairs)];
        int n = 0;
        m[n++] = variables;
        for (int v = 0; v < variables; v++) {
            m[n++] = 0;
            m[n++] = 0;
            m[n++] = v;
        }
        m[n++] = rules;
        n += rules * (variables + 1);
        m[n++] = tables;
        for (int t = 0; t < tables; t++) {
            m[n++] = 0;
            m[n++] = 1;
            m[n++] = pairs;
            n += 2 * pairs;
        }
        return m;
    }

    private static int answer(int... numbers) {
        PlanCertificates x = new PlanCertificates();
        Checks.put(x, numbers);
        return x.model();
    }

    private static int answerWith(int[] model, int place, int number) {
        int[] changed = model.clone();
        changed[place] = number;
        return answer(changed);
    }

    /** At this place lowest to highest are right, and all beyond is wrong there. */
    private static void bounds(String what, int[] model, int place, int lowest, int highest) {
        Checks.due(what + " " + lowest, answerWith(model, place, lowest), 1);
        Checks.due(what + " " + highest, answerWith(model, place, highest), 1);
        if (lowest < highest) {
            Checks.due(what + " " + (lowest + 1), answerWith(model, place, lowest + 1), 1);
            Checks.due(what + " " + (highest - 1), answerWith(model, place, highest - 1), 1);
        }
        wrong(what, model, place, lowest - 1, highest + 1, LEAST, GREATEST);
    }

    private static void wrong(String what, int[] model, int place, int... numbers) {
        for (int number : numbers) {
            Checks.due(what + " " + number, answerWith(model, place, number), -10 - place);
        }
    }

    /** V, how many VARIABLES (1 to 8). */
    private static void howManyVariables() {
        for (int v = 1; v <= 8; v++) {
            PlanCertificates x = Checks.withModel(model(v, 1, 0, 0));
            Checks.due("told(1)", x.told(1), v);
        }
        wrong("V", model(1, 0, 0, 0), 0, LEAST, -1, 0, 9, 10, GREATEST);
        wrong("V", model(8, 20, 4, 20), 0, 0, 9);
    }

    /** Of each LOW (-1000 to 1000), HIGH (LOW to 1000), COST (-100 to 100). */
    private static void lowHighCost() {
        for (int v = 0; v < 8; v++) {
            int[] m = model(8, 0, 0, 0);
            int low = 1 + 3 * v;
            int high = low + 1;
            bounds("COST", m, low + 2, -100, 100);
            bounds("HIGH of LOW 0", m, high, 0, 1000);
            m[high] = 1000;
            bounds("LOW", m, low, -1000, 1000);
            m[low] = 1000;
            bounds("HIGH of LOW 1000", m, high, 1000, 1000);
            m[low] = -1000;
            bounds("HIGH of LOW -1000", m, high, -1000, 1000);
            m[low] = -3;
            bounds("HIGH of LOW -3", m, high, -3, 1000);
            m[high] = -4;
            Checks.due("a HIGH below LOW is wrong itself", answer(m), -10 - high);
        }
    }

    /** R, how many RULES (0 to 20). */
    private static void howManyRules() {
        int[] counts = {0, 1, 2, 19, 20};
        for (int rules : counts) {
            PlanCertificates x = Checks.withModel(model(2, rules, 0, 0));
            Checks.due("told(2)", x.told(2), rules);
        }
        wrong("R", model(1, 0, 0, 0), 4, LEAST, -1, 21, 22, GREATEST);
        wrong("R", model(8, 20, 4, 20), 25, -1, 21);
    }

    /** Of each V FACTORS (-100 to 100) and RIGHT (-100000 to 100000). */
    private static void factorsAndRight() {
        int[] m = model(8, 20, 0, 0);
        int[] rules = {0, 1, 19};
        for (int rule : rules) {
            int first = 26 + 9 * rule;
            for (int v = 0; v < 8; v++) {
                bounds("FACTOR", m, first + v, -100, 100);
            }
            bounds("RIGHT", m, first + 8, -100000, 100000);
        }
        m = model(1, 1, 0, 0);
        bounds("FACTOR of the only VARIABLE", m, 5, -100, 100);
        bounds("RIGHT behind one FACTOR", m, 6, -100000, 100000);
    }

    /** T, how many TABLES (0 to 4). */
    private static void howManyTables() {
        for (int tables = 0; tables <= 4; tables++) {
            PlanCertificates x = Checks.withModel(model(2, 0, tables, 1));
            Checks.due("told(3)", x.told(3), tables);
        }
        wrong("T", model(1, 0, 0, 0), 5, LEAST, -1, 5, 6, GREATEST);
        wrong("T", model(8, 20, 4, 20), 206, -1, 5);
    }

    /** Of each two different VARIABLES a, b (0 to V - 1). */
    private static void twoDifferentVariables() {
        for (int v = 2; v <= 8; v++) {
            int[] m = model(v, 0, 1, 1);
            int a = 3 * v + 3;
            int b = a + 1;
            m[b] = 1;
            Checks.due("a the first", answerWith(m, a, 0), 1);
            Checks.due("b the last", answerWith(m, b, v - 1), 1);
            m[b] = 0;
            Checks.due("a the last, b the first", answerWith(m, a, v - 1), 1);
            wrong("a", m, a, LEAST, -1, v, v + 1, GREATEST);
            m[a] = 1;
            wrong("b", m, b, LEAST, -1, v, v + 1, GREATEST);
            for (int same = 0; same < v; same++) {
                m[a] = same;
                wrong("b that is a", m, b, same);
            }
        }
        // With one VARIABLE alone there is no b.
        int[] one = {1, 0, 0, 0, 0, 1, 0, 0, 1, 0, 0};
        wrong("b", one, 7, -1, 0, 1);
        wrong("a", one, 6, -1, 1);
        // Of the last table too; an a that is as it should be can still make b wrong.
        int[] last = model(8, 0, 4, 20);
        int a = 27 + 3 * 43;
        wrong("b of the last table", last, a + 1, -1, 0, 8);
        last[a + 1] = 7;
        Checks.due("a and b of the last table", answer(last), 1);
        Checks.due("a below b", answerWith(last, a, 6), 1);
        Checks.due("a that is b", answerWith(last, a, 7), -10 - (a + 1));
        wrong("a of the last table", last, a, -1, 8);
    }

    /** How many PAIRS (1 to 20). */
    private static void howManyPairs() {
        int[] counts = {1, 2, 19, 20};
        for (int pairs : counts) {
            Checks.due(pairs + " pairs", answer(model(2, 0, 1, pairs)), 1);
            Checks.due(pairs + " pairs of each", answer(model(3, 2, 4, pairs)), 1);
        }
        wrong("PAIRS", model(2, 0, 1, 1), 11, LEAST, -1, 0, 21, 22, GREATEST);
        wrong("PAIRS of the last table", model(8, 20, 4, 20), 206 + 1 + 3 * 43 + 2, -1, 0, 21);
    }

    /** These (two numbers each, -1000 to 1000), beyond LOW and HIGH too. */
    private static void numbersOfPairs() {
        int[] m = model(2, 0, 2, 20);
        for (int i = 0; i < 40; i++) {
            bounds("number " + i + " of a pair", m, 12 + i, -1000, 1000);
        }
        bounds("the first number of a pair of the second table", m, 12 + 43, -1000, 1000);
        bounds("the last number of all", m, m.length - 1, -1000, 1000);
    }

    private static void nothingMore() {
        int[][] models = {model(1, 0, 0, 0), model(2, 1, 1, 1), model(8, 20, 4, 20)};
        for (int[] m : models) {
            Checks.due("as it is", answer(m), 1);
            Checks.due("a 0 more", answer(Arrays.copyOf(m, m.length + 1)), -10 - m.length);
            Checks.due("two more", answer(Arrays.copyOf(m, m.length + 2)), -10 - m.length);
            Checks.due("up to a full tape", answer(Arrays.copyOf(m, 1000)), -10 - m.length);
        }
    }

    /** The TAPE's length, where one lacks. */
    private static void oneLacks() {
        int[][] models = {model(1, 0, 0, 0), model(2, 2, 2, 2), model(8, 20, 4, 20)};
        for (int[] m : models) {
            for (int n = 0; n < m.length; n++) {
                Checks.due(n + " of " + m.length, answer(Arrays.copyOf(m, n)), -10 - n);
            }
        }
    }

    private static void theFirstWrongNumber() {
        int[] m = model(2, 1, 1, 1);
        m[3] = 101;
        m[6] = 101;
        Checks.due("two are wrong", answer(m), -13);
        m[3] = 0;
        Checks.due("the second alone", answer(m), -16);
        Checks.due("a wrong one ahead of one that lacks", answer(Arrays.copyOf(m, 7)), -16);
        Checks.due("one lacks ahead of it", answer(Arrays.copyOf(m, 6)), -16);
        Checks.due("a wrong one ahead of one too many", answer(Arrays.copyOf(m, m.length + 1)), -16);
    }

    private static void smallestAndGreatest() {
        Checks.due("an empty tape", answer(), -10);
        Checks.due("six numbers", answer(model(1, 0, 0, 0)), 1);
        int[] m = model(8, 20, 4, 20);
        Checks.due("the greatest has so many", m.length, 379);
        PlanCertificates x = Checks.withModel(m);
        Checks.due("told(1)", x.told(1), 8);
        Checks.due("told(2)", x.told(2), 20);
        Checks.due("told(3)", x.told(3), 4);
    }

    /** model() uses the TAPE up, whatever it answers. */
    private static void theTapeIsUsedUp() {
        PlanCertificates x = new PlanCertificates();
        Checks.put(x, model(1, 0, 0, 0));
        Checks.due("a model", x.model(), 1);
        Checks.due("told(0) behind a model", x.told(0), 0);
        Checks.due("then the tape is empty", x.model(), -10);
        Checks.put(x, 1, 0, 0, 0, 99, 99, 99);
        Checks.due("a refused one", x.model(), -14);
        Checks.due("told(0) behind a refused one", x.told(0), 0);
        Checks.put(x, model(1, 0, 0, 0));
        Checks.due("nothing of it is left", x.model(), 1);
    }

    /** Then all else stays, at whatever number the model was refused. */
    private static void refusedLeavesAllElse() {
        int[] m = model(8, 20, 4, 20);
        int[] places = {0, 1, 2, 25, 34, 206, 207, 378};
        for (int state = 0; state < Twins.STATES; state++) {
            for (int place : places) {
                int[] refused = m.clone();
                refused[place] = GREATEST;
                Twins.unchangedIn(state, "a model refused at " + place, x -> {
                    x.drop();
                    Checks.put(x, refused);
                    Checks.due("model()", x.model(), -10 - place);
                }, PlanCertificates::drop);
            }
            Twins.unchangedIn(state, "model() of an empty tape", x -> {
                x.drop();
                Checks.due("model()", x.model(), -10);
            }, PlanCertificates::drop);
            Twins.unchangedIn(state, "a model with one number more", x -> {
                x.drop();
                Checks.put(x, Arrays.copyOf(m, m.length + 1));
                Checks.due("model()", x.model(), -10 - m.length);
            }, PlanCertificates::drop);
        }
    }

    /** 1; then there are no plans and no certificate: all is as of a new object with that model. */
    private static void acceptedEndsPlansAndCertificate() {
        int[][] models = {model(1, 0, 0, 0), Twins.MODEL, model(8, 20, 4, 20)};
        for (int[] m : models) {
            String due = Checks.state(Checks.withModel(m));
            for (int state = 0; state < Twins.STATES; state++) {
                PlanCertificates x = Twins.inState(state);
                x.drop();
                Checks.put(x, m);
                Checks.due("model()", x.model(), 1);
                Checks.dueText("a model in state " + state, Checks.state(x), due);
                Checks.due("breaks(0)", x.breaks(0), PlanCertificates.UNKNOWN);
                Checks.due("read()", Checks.read(x, x.digest()), PlanCertificates.STATE);
                Checks.due("begin()", x.begin(), 0);
                Checks.due("the digest", Checks.read(x, x.digest(), 1, 0), 1);
            }
        }
    }
}
