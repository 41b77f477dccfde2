import java.util.Arrays;

/** Certificates of any wanted length, that objects read in few calls (512 are all that count). */
final class Fill {
    /** x is 0 to 1, y 0 to 9, costs 1 and 2; 2x - 4y <= 7; (x, y) is (0, 0), (1, 5) or (1, 3). */
    static final int[] MODEL = {2, 0, 1, 1, 0, 9, 2, 1, 2, -4, 7, 1, 0, 1, 3, 0, 0, 1, 5, 1, 3};

    /** 0: x <= 1, 1: y <= 9, 2: x <= 0 or 3: -x <= -1 (branches), 4 to 7: row 0 so often: 10^3 to 10^12. */
    private static final int[] START = {1, 0, 1, 1, 6, 0, 0, 0, 6, 0, 0, 1,
        4, 1, 0, 1000, 4, 1, 4, 1000, 4, 1, 5, 1000, 4, 1, 6, 1000};
    private static final int[] PUSHED = {9, 0, 0};
    private static final int[] SUM = {4, 4, 0, 1, 0, 1, 0, 1, 0, 1};

    private Fill() {
    }

    static PlanCertificates begun() {
        PlanCertificates x = Checks.withModel(MODEL);
        Checks.plan(x, 1, 5);
        Checks.plan(x, 1, 4);
        x.begin();
        return x;
    }

    /** The numbers of a certificate with whole rows, so many in all (29, 31 or more). */
    static int[] numbers(int digest, int length) {
        int[] all = new int[length];
        all[0] = digest;
        int n = append(all, 1, START, START.length);
        if ((length - n) % 2 == 1) {
            n = append(all, n, PUSHED, PUSHED.length);
        }
        while (length - n >= SUM.length) {
            n = append(all, n, SUM, SUM.length);
        }
        int left = length - n;
        if (left == 2) {
            append(all, n, START, 2);
        } else if (left > 2) {
            append(all, n, SUM, left);
            all[n + 1] = (left - 2) / 2;
        }
        return all;
    }

    private static int append(int[] all, int n, int[] row, int length) {
        System.arraycopy(row, 0, all, n, length);
        return n + length;
    }

    /** Reads so many numbers of whole rows, and then these. */
    static int read(PlanCertificates x, int length, int... then) {
        int[] all = Arrays.copyOf(numbers(x.digest(), length), length + then.length);
        System.arraycopy(then, 0, all, length, then.length);
        return inTapes(x, all);
    }

    static int inTapes(PlanCertificates x, int... numbers) {
        int answer = 0;
        for (int i = 0; i < numbers.length; i += 1000) {
            Checks.put(x, Arrays.copyOfRange(numbers, i, Math.min(i + 1000, numbers.length)));
            answer = x.read();
        }
        return answer;
    }

    /** The digest, and then a row of two numbers so often: row by row the same. */
    static int rows(PlanCertificates x, int count, int kind, int a) {
        int[] all = new int[1 + 2 * count];
        all[0] = x.digest();
        for (int i = 0; i < count; i++) {
            all[1 + 2 * i] = kind;
            all[2 + 2 * i] = a;
        }
        return inTapes(x, all);
    }

    /** The digest, and then so many branches: variable 0 at most 0, 1, 2 .. */
    static int branches(PlanCertificates x, int count) {
        int[] all = new int[1 + 4 * count];
        all[0] = x.digest();
        for (int i = 0; i < count; i++) {
            all[1 + 4 * i] = 6;
            all[3 + 4 * i] = i;
        }
        return inTapes(x, all);
    }

    /** So many numbers on an empty tape, all alike. */
    static void tape(PlanCertificates x, int count, int number) {
        int[] all = new int[count];
        Arrays.fill(all, number);
        Checks.put(x, all);
    }
}
