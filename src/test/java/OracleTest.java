/**
 * All promises: runs of calls, wrong ones among them, are made on an object and on the oracle, and
 * every answer must be the same; what stands at the end must be true of all good plans. The runs are
 * always the same ones. They go on beyond 512 calls, where the document leaves the answers free:
 * the class counts no calls, so its answers are right there too.
 */
public final class OracleTest {
    private static long seed = 20261115L;

    private final PlanCertificates x = new PlanCertificates();
    private final Oracle o = new Oracle();
    private final int size;
    private final int[] low = new int[9];
    private final int[] high = new int[9];

    private OracleTest(int size) {
        this.size = size;
    }

    public static void main(String[] args) {
        int runs = args.length > 0 ? Integer.parseInt(args[0]) : 600;
        for (int run = 0; run < runs && !Checks.anyWrong(); run++) {
            new OracleTest(1 + upTo(3)).go();
        }
        Checks.finish();
    }

    /** 0 to n - 1. */
    private static int upTo(int n) {
        seed = seed * 6364136223846793005L + 1442695040888963407L;
        return (int) ((seed >>> 33) % n);
    }

    private static int between(int lowest, int highest) {
        return lowest + upTo(highest - lowest + 1);
    }

    /** Now and then something that is beyond. */
    private static int mostly(int lowest, int highest, int odds) {
        if (upTo(odds) == 0) {
            int[] wild = {lowest - 1, highest + 1, -1, 0, 1000000, -1000001, Integer.MAX_VALUE, Integer.MIN_VALUE};
            return wild[upTo(wild.length)];
        }
        return highest < lowest ? lowest : between(lowest, highest);
    }

    private void go() {
        model(400);
        observe();
        int calls = 10 + upTo(120);
        for (int i = 0; i < calls && !Checks.anyWrong(); i++) {
            step();
            if (upTo(3) == 0) {
                observe();
            }
        }
        observe();
        everyRow();
    }

    private void step() {
        int kind = upTo(40);
        if (kind == 0 && upTo(4) == 0) {
            model(upTo(2) == 0 ? 20 : 400);
        } else if (kind <= 2) {
            plan();
        } else if (kind == 4) {
            Checks.due("begin()", x.begin(), o.begin());
            if (upTo(8) != 0) {
                put(o.digest());
            }
        } else if (kind == 5) {
            Checks.due("drop()", x.drop(), o.drop());
        } else if (kind == 6) {
            int row = mostly(0, x.told(5) - 1, 10);
            Checks.due("trim(" + row + ")", Checks.trim(x, row), o.trim(row));
        } else if (kind == 7) {
            int n = between(-1, 6);
            Checks.due("put", x.put(n, 1, 2, 3, 4), o.put(n, 1, 2, 3, 4));
        } else if (kind <= 10) {
            Checks.due("read()", x.read(), o.read());
        } else {
            rows();
        }
    }

    private void put(int number) {
        Checks.due("put", x.put(1, number, 0, 0, 0), o.put(1, number, 0, 0, 0));
    }

    private void model(int odds) {
        Checks.due("drop()", x.drop(), o.drop());
        int v = mostly(1, Math.min(8, 1 + size), odds);
        put(v);
        for (int i = 0; i < v && i < 9; i++) {
            int low = mostly(-size, 2, odds);
            put(low);
            int high = mostly(low, Math.min(low, 1000) + size, odds);
            put(high);
            this.low[i] = low;
            this.high[i] = high;
            put(upTo(4) == 0 ? 0 : mostly(-2, 3, odds));
        }
        int rules = mostly(0, 3, odds);
        put(rules);
        for (int i = 0; i < rules && i < 21; i++) {
            for (int j = 0; j < v && j < 9; j++) {
                put(mostly(-4, 4, odds));
            }
            put(mostly(-6, 9, odds));
        }
        int tables = v < 2 ? 0 : mostly(0, 2, odds);
        put(tables);
        for (int i = 0; i < tables && i < 5; i++) {
            int a = mostly(0, v - 1, odds);
            put(a);
            put(upTo(odds) == 0 ? a : (a + 1 + upTo(Math.max(1, Math.min(v, 8) - 1))) % v);
            int pairs = mostly(1, 5, odds);
            put(pairs);
            for (int j = 0; j < 2 * pairs && j < 42; j++) {
                put(mostly(-size, 2 + size, odds));
            }
        }
        if (upTo(odds) == 0) {
            put(0);
        }
        Checks.due("model()", x.model(), o.model());
        Checks.due("begin()", x.begin(), o.begin());
        put(o.digest());
    }

    private void plan() {
        Checks.due("read()", x.read(), o.read());
        int v = x.told(1);
        for (int i = 0; i < v; i++) {
            put(mostly(low[i], Math.min(high[i], 1000), 60));
        }
        if (upTo(20) == 0) {
            put(1);
        }
        Checks.due("plan()", x.plan(), o.plan());
    }

    private void rows() {
        int many = 1 + upTo(3);
        int odds = 300;
        int known = x.told(5);
        for (int i = 0; i < many; i++) {
            row(upTo(odds) == 0 ? mostly(0, 9, 2) : possibleKind(known), known, odds);
            known++;
            if (upTo(3) == 0) {
                Checks.due("read()", x.read(), o.read());
            }
        }
        if (upTo(2) == 0) {
            Checks.due("read()", x.read(), o.read());
        }
        if (x.fault(0) != 0 && upTo(3) != 0) {
            restart();
        }
    }

    /** A kind for which there is something that it could need. */
    private int possibleKind(int known) {
        for (int tries = 0; tries < 30; tries++) {
            int kind = upTo(10);
            boolean lacks = kind == 0 && x.told(2) == 0 || kind == 3 && x.told(3) == 0
                    || (kind == 4 || kind == 5 || kind == 9) && known == 0
                    || kind == 7 && (x.told(6) < 2 || upTo(2) == 0) || kind == 8 && x.told(4) == 0
                    || kind == 6 && upTo(3) != 0;
            if (!lacks) {
                return kind;
            }
        }
        return 1;
    }

    /** Goes on behind a fault. */
    private void restart() {
        int rows = x.told(5);
        if (rows > 0 && upTo(3) != 0) {
            Checks.due("drop()", x.drop(), o.drop());
            Checks.due("trim", Checks.trim(x, rows - 1), o.trim(rows - 1));
        } else {
            Checks.due("drop()", x.drop(), o.drop());
            Checks.due("begin()", x.begin(), o.begin());
            put(o.digest());
        }
    }

    private void row(int kind, int known, int odds) {
        put(kind);
        switch (kind) {
            case 0:
                put(mostly(0, x.told(2) - 1, odds));
                break;
            case 1:
            case 2:
                put(mostly(0, x.told(1) - 1, odds));
                break;
            case 3:
                put(mostly(0, x.told(3) - 1, odds));
                put(mostly(-3, 3, odds));
                put(mostly(-3, 3, odds));
                break;
            case 4:
                int n = mostly(1, 4, odds);
                put(n);
                for (int i = 0; i < n && i < 5; i++) {
                    put(mostly(0, known - 1, odds));
                    put(upTo(9) == 0 ? mostly(900, 1000, odds) : mostly(1, 4, odds));
                }
                break;
            case 5:
                divide(known, odds);
                break;
            case 6:
                branch(odds);
                break;
            case 7:
                join(known, odds);
                break;
            case 8:
                better(odds);
                break;
            case 9:
                push(known, odds);
                break;
            default:
                break;
        }
    }

    private void better(int odds) {
        int plan = mostly(0, x.told(4) - 1, odds);
        for (int tries = 0; tries < 10 && x.told(4) > 0 && x.breaks(plan) != -1; tries++) {
            plan = upTo(x.told(4));
        }
        put(plan);
    }

    private void divide(int known, int odds) {
        int a = mostly(0, known - 1, odds);
        int b = mostly(2, 4, odds);
        for (int tries = 0; tries < 30 && known > 0 && !divides(a, b); tries++) {
            a = upTo(known);
            b = between(2, 4);
        }
        put(a);
        put(b);
    }

    private boolean divides(int a, int b) {
        boolean divides = b != 0;
        for (int v = 0; v < x.told(1) && divides; v++) {
            divides = Checks.row(x, a, v) % b == 0;
        }
        return divides;
    }

    private void push(int known, int odds) {
        int a = mostly(0, known - 1, odds);
        int b = mostly(0, x.told(1) - 1, odds);
        for (int tries = 0; tries < 30 && known > 0 && Checks.row(x, a, b) == 0; tries++) {
            a = upTo(known);
            b = upTo(x.told(1));
        }
        put(a);
        put(b);
    }

    private void branch(int odds) {
        int a = mostly(0, x.told(1) - 1, odds);
        int b = mostly(-2, 2, odds);
        int side = mostly(0, 1, odds);
        put(a);
        put(b);
        put(side);
        if (upTo(4) != 0) {
            put(6);
            put(a);
            put(b);
            put(1 - side);
        }
    }

    /** Mostly of two rows that are alike, by two branches that fit. */
    private void join(int known, int odds) {
        int a = mostly(0, known - 1, odds);
        int b = mostly(0, known - 1, odds);
        int c = mostly(0, known - 1, odds);
        int d = mostly(0, known - 1, odds);
        for (int tries = 0; tries < 60 && known > 0; tries++) {
            int p = upTo(known);
            int q = upTo(known);
            if (Checks.row(x, p, 12) == 6 && Checks.row(x, q, 12) == 6 && opposite(p, q)) {
                c = p;
                d = q;
            }
        }
        for (int tries = 0; tries < 20 && known > 0; tries++) {
            int p = upTo(known);
            int q = upTo(known);
            if (alike(p, q)) {
                a = p;
                b = q;
            }
        }
        put(a);
        put(b);
        put(c);
        put(d);
    }

    private boolean opposite(int p, int q) {
        boolean opposite = Checks.row(x, p, 8) == -1 - Checks.row(x, q, 8);
        for (int v = 0; v < x.told(1); v++) {
            opposite &= Checks.row(x, p, v) == -Checks.row(x, q, v) && Checks.row(x, p, v) >= 0;
        }
        return opposite;
    }

    private boolean alike(int p, int q) {
        boolean same = true;
        boolean zeros = true;
        for (int v = 0; v < x.told(1); v++) {
            same &= Checks.row(x, p, v) == Checks.row(x, q, v);
            zeros &= Checks.row(x, p, v) == 0;
        }
        return same || zeros && Checks.row(x, p, 8) < 0;
    }

    private void observe() {
        for (int what = -1; what <= 8; what++) {
            Checks.due("told(" + what + ")", x.told(what), o.told(what));
        }
        for (int what = -1; what <= 3; what++) {
            Checks.due("fault(" + what + ")", x.fault(what), o.fault(what));
        }
        for (int plan = -1; plan <= x.told(4); plan++) {
            Checks.due("breaks(" + plan + ")", x.breaks(plan), o.breaks(plan));
            Checks.due("cost(" + plan + ")", Checks.cost(x, plan), o.cost(plan));
        }
        Checks.due("digest()", x.digest(), o.digest());
        Checks.due("proved()", x.proved(), o.proved());
        Checks.due("best()", Checks.best(x), o.best());
        Checks.due("least()", Checks.least(x), o.least());
        for (int what = -1; what <= 14; what++) {
            int row = mostly(0, x.told(5) - 1, 10);
            Checks.due("row(" + row + ", " + what + ")", Checks.row(x, row, what), o.row(row, what));
            Checks.due("number", Checks.number(x, row), o.number(row));
        }
    }

    private void everyRow() {
        int rows = x.told(5);
        for (int row = -1; row <= rows; row++) {
            for (int what = 0; what <= 14; what++) {
                Checks.due("row(" + row + ", " + what + ")", Checks.row(x, row, what), o.row(row, what));
            }
            for (int i = -1; i <= 3; i++) {
                Checks.due("assumes(" + row + ", " + i + ")", Checks.assumes(x, row, i), o.assumes(row, i));
            }
            for (int plan = -1; plan <= x.told(4); plan++) {
                Checks.due("holds(" + row + ", " + plan + ")", Checks.holds(x, row, plan), o.holds(row, plan));
            }
        }
        Checks.due("untruths of the rows that stand", o.untruths(), 0);
        for (int i = -1; i <= x.told(7); i++) {
            Checks.due("number(" + i + ")", Checks.number(x, i), o.number(i));
        }
    }
}
