import java.math.BigInteger;

/** Promise 8: digest. */
public final class Promise08Digest {
    /** Of 1, 0, 0, 0, 0, 0: 15116191728, going round. */
    private static final int SHORTEST = -2063677456;

    public static void main(String[] args) {
        withoutAModel();
        seventeenAndThirtyOne();
        goingRound();
        ofTheModelThatStands();
        nothingElseChangesIt();
        Checks.finish();
    }

    private static void withoutAModel() {
        PlanCertificates x = new PlanCertificates();
        Checks.due("of a new object", x.digest(), 0);
        Checks.put(x, 1, 0, 5, 1, 0, 0);
        Checks.due("of a tape that no model() has read", x.digest(), 0);
        Checks.put(x, 0);
        x.model();
        Checks.due("behind a refused model", x.digest(), 0);
    }

    /** h is 17 at first; for each number v, from the first on, h becomes 31 h + v. */
    private static void seventeenAndThirtyOne() {
        long h = 17;
        int[] m = {1, -1000, 1000, -100, 0, 0};
        for (int v : m) {
            h = 31 * h + v;
        }
        Checks.due("without going round", h, 14222365628L);
        Checks.due("digest()", Checks.withModel(m).digest(), (int) h);
        Checks.due("the shortest model", Checks.withModel(1, 0, 0, 0, 0, 0).digest(), SHORTEST);
        Checks.due("the order counts", Checks.withModel(1, 0, 1, 0, 0, 0).digest()
                == Checks.withModel(1, 0, 0, 1, 0, 0).digest() ? 1 : 0, 0);
    }

    /** 32 bits, going round: one more than 2^31 - 1 is -2^31, one more than -1 is 0. */
    private static void goingRound() {
        int[] m = {2, -158, 0, 67, 0, 0, 0, 0, 1, 0, 1, 1, 601, 4};
        Checks.due("below the greatest", Checks.withModel(m).digest(), Integer.MAX_VALUE - 1);
        m[13] = 5;
        Checks.due("the greatest", Checks.withModel(m).digest(), Integer.MAX_VALUE);
        m[13] = 6;
        Checks.due("behind the greatest", Checks.withModel(m).digest(), Integer.MIN_VALUE);
        m[13] = 7;
        Checks.due("above the least", Checks.withModel(m).digest(), Integer.MIN_VALUE + 1);
        int[] zero = {2, -427, 0, -5, 0, 0, 0, 0, 1, 0, 1, 1, 831, 0};
        Checks.due("below 0", Checks.withModel(zero).digest(), -1);
        zero[13] = 1;
        PlanCertificates x = Checks.withModel(zero);
        Checks.due("0, with a model", x.digest(), 0);
        x.begin();
        Checks.due("then a certificate begins with 0", Checks.read(x, 0, 1, 0), 1);
        longest();
    }

    private static void longest() {
        int[] m = new int[379];
        m[0] = 8;
        m[25] = 20;
        for (int i = 26; i < 206; i++) {
            m[i] = -100 + i % 7;
        }
        m[206] = 4;
        for (int t = 0; t < 4; t++) {
            m[207 + 43 * t] = 7;
            m[209 + 43 * t] = 20;
        }
        BigInteger h = BigInteger.valueOf(17);
        for (int v : m) {
            h = h.multiply(BigInteger.valueOf(31)).add(BigInteger.valueOf(v));
        }
        Checks.due("the longest model", Checks.withModel(m).digest(), h.intValue());
    }

    private static void ofTheModelThatStands() {
        PlanCertificates x = Checks.withModel(1, 0, 5, 1, 1, -2, -3, 0);
        Checks.due("digest()", x.digest(), 1224952588);
        Checks.put(x, 1, 0, 5, 1, 1, -2, -3, 5);
        Checks.due("a refused model", x.model(), -17);
        Checks.due("the old one's", x.digest(), 1224952588);
        Checks.put(x, 1, 0, 0, 0, 0, 0);
        x.model();
        Checks.due("the new one's", x.digest(), SHORTEST);
    }

    private static void nothingElseChangesIt() {
        PlanCertificates x = Checks.withModel(1, 0, 5, 1, 1, -2, -3, 0);
        Checks.put(x, 2);
        Checks.due("behind put()", x.digest(), 1224952588);
        x.plan();
        Checks.due("behind plan()", x.digest(), 1224952588);
        x.begin();
        Checks.read(x, 1224952588, 1, 0, 99);
        Checks.due("behind read()", x.digest(), 1224952588);
        x.trim(0);
        Checks.due("behind trim()", x.digest(), 1224952588);
        Checks.put(x, 7);
        x.drop();
        Checks.due("behind drop()", x.digest(), 1224952588);
    }
}
