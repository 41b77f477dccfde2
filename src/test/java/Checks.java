/** What the tests share: answers are compared, wrong ones printed, and counted for the exit code. */
final class Checks {
    static final long THROWS_INDEX = Long.MIN_VALUE + 1;
    static final long THROWS_STATE = Long.MIN_VALUE + 2;

    private static int wrong = 0;
    private static int made = 0;

    private Checks() {
    }

    static void due(String call, long got, long want) {
        made++;
        if (got != want) {
            wrong++;
            if (wrong <= 50) {
                System.out.println(call + " answered " + got + ", due is " + want);
            }
        }
    }

    static void dueText(String call, String got, String want) {
        due(call + ": " + got + ", due is " + want + "; alike", got.equals(want) ? 1 : 0, 1);
    }

    static void finish() {
        System.out.println(made + " answers, " + wrong + " not as due");
        if (wrong != 0) {
            System.exit(1);
        }
    }

    static boolean anyWrong() {
        return wrong != 0;
    }

    /** Puts numbers on the tape, in pieces of four. */
    static void put(PlanCertificates x, int... numbers) {
        int i = 0;
        while (i < numbers.length) {
            int n = Math.min(4, numbers.length - i);
            x.put(n, numbers[i], n > 1 ? numbers[i + 1] : 0, n > 2 ? numbers[i + 2] : 0,
                    n > 3 ? numbers[i + 3] : 0);
            i += n;
        }
    }

    static PlanCertificates withModel(int... numbers) {
        PlanCertificates x = new PlanCertificates();
        put(x, numbers);
        due("model()", x.model(), 1);
        return x;
    }

    static int plan(PlanCertificates x, int... numbers) {
        put(x, numbers);
        return x.plan();
    }

    /** A certificate begins, and the right digest is read. */
    static void begin(PlanCertificates x) {
        x.begin();
        due("read() of the digest", read(x, x.digest()), 0);
    }

    static int read(PlanCertificates x, int... numbers) {
        put(x, numbers);
        return x.read();
    }

    static long row(PlanCertificates x, int row, int what) {
        try {
            return x.row(row, what);
        } catch (IndexOutOfBoundsException e) {
            return exactly(e, IndexOutOfBoundsException.class, THROWS_INDEX);
        }
    }

    static long assumes(PlanCertificates x, int row, int i) {
        try {
            return x.assumes(row, i);
        } catch (IndexOutOfBoundsException e) {
            return exactly(e, IndexOutOfBoundsException.class, THROWS_INDEX);
        }
    }

    static long holds(PlanCertificates x, int row, int plan) {
        try {
            return x.holds(row, plan);
        } catch (IndexOutOfBoundsException e) {
            return exactly(e, IndexOutOfBoundsException.class, THROWS_INDEX);
        }
    }

    static long cost(PlanCertificates x, int plan) {
        try {
            return x.cost(plan);
        } catch (IndexOutOfBoundsException e) {
            return exactly(e, IndexOutOfBoundsException.class, THROWS_INDEX);
        }
    }

    static long trim(PlanCertificates x, int row) {
        try {
            return x.trim(row);
        } catch (IndexOutOfBoundsException e) {
            return exactly(e, IndexOutOfBoundsException.class, THROWS_INDEX);
        }
    }

    static long number(PlanCertificates x, int i) {
        try {
            return x.number(i);
        } catch (IndexOutOfBoundsException e) {
            return exactly(e, IndexOutOfBoundsException.class, THROWS_INDEX);
        }
    }

    static long best(PlanCertificates x) {
        try {
            return x.best();
        } catch (IllegalStateException e) {
            return exactly(e, IllegalStateException.class, THROWS_STATE);
        }
    }

    static long least(PlanCertificates x) {
        try {
            return x.least();
        } catch (IllegalStateException e) {
            return exactly(e, IllegalStateException.class, THROWS_STATE);
        }
    }

    /** What the machine throws at an array's index is of a class below: it must not pass. */
    private static long exactly(RuntimeException e, Class<?> wanted, long code) {
        return e.getClass() == wanted ? code : Long.MIN_VALUE;
    }

    static void dueRow(PlanCertificates x, int row, long right, long... factors) {
        for (int v = 0; v < factors.length; v++) {
            due("row(" + row + ", " + v + ")", row(x, row, v), factors[v]);
        }
        due("row(" + row + ", 8)", row(x, row, 8), right);
    }

    static void dueFault(PlanCertificates x, int fault, int row, int number) {
        due("fault(0)", x.fault(0), fault);
        due("fault(1)", x.fault(1), row);
        due("fault(2)", x.fault(2), number);
    }

    static void dueAssumptions(PlanCertificates x, int row, int... branches) {
        due("row(" + row + ", 9)", row(x, row, 9), branches.length);
        for (int i = 0; i < branches.length; i++) {
            due("assumes(" + row + ", " + i + ")", assumes(x, row, i), branches[i]);
        }
        due("assumes(" + row + ") behind the last", assumes(x, row, branches.length), -1);
    }

    static void dueNumbers(PlanCertificates x, int... numbers) {
        due("told(7)", x.told(7), numbers.length);
        for (int i = 0; i < numbers.length; i++) {
            due("number(" + i + ")", number(x, i), numbers[i]);
        }
        due("number behind the last", number(x, numbers.length), THROWS_INDEX);
    }

    /** All that an object tells, from which it can be seen whether a call has changed it. */
    static String state(PlanCertificates x) {
        return x.told(0) + " on the tape; " + stateButTape(x);
    }

    static String stateButTape(PlanCertificates x) {
        StringBuilder all = new StringBuilder();
        int[] told = new int[8];
        for (int what = 1; what <= 7; what++) {
            told[what] = x.told(what);
            all.append(told[what]).append(' ');
        }
        all.append("digest ").append(x.digest()).append(" fault");
        for (int what = 0; what <= 2; what++) {
            all.append(' ').append(x.fault(what));
        }
        all.append(" proved ").append(x.proved()).append(' ').append(best(x)).append(' ').append(least(x));
        all.append(" plans");
        for (int plan = 0; plan < told[4]; plan++) {
            all.append(' ').append(x.breaks(plan)).append(' ').append(cost(x, plan));
        }
        all.append(" numbers");
        for (int i = 0; i < told[7]; i++) {
            all.append(' ').append(number(x, i));
        }
        for (int row = 0; row < told[5]; row++) {
            all.append(" row ").append(stateOfRow(x, row, told[1], told[4]));
        }
        return all.toString();
    }

    private static String stateOfRow(PlanCertificates x, int row, int variables, int plans) {
        StringBuilder all = new StringBuilder();
        for (int v = 0; v < variables; v++) {
            all.append(row(x, row, v)).append(' ');
        }
        for (int what = 8; what <= 13; what++) {
            all.append(row(x, row, what)).append(' ');
        }
        long assumptions = row(x, row, 9);
        for (int i = 0; i < assumptions; i++) {
            all.append(assumes(x, row, i)).append(' ');
        }
        for (int plan = 0; plan < plans; plan++) {
            all.append(holds(x, row, plan)).append(' ');
        }
        return all.toString();
    }
}
