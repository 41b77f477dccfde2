import java.math.BigInteger;
import java.util.ArrayList;
import java.util.List;
import java.util.TreeMap;
import java.util.TreeSet;

/**
 * The document once more, told in another way for comparison: nothing is kept but the numbers, and
 * every answer reads them again from the first one on, with numbers of any size and sets.
 */
final class Oracle {
    private static final BigInteger MOST = BigInteger.TEN.pow(12);

    private List<Integer> tape = new ArrayList<>();
    private List<Integer> modelNumbers = null;
    private final List<List<Integer>> plans = new ArrayList<>();
    /** Each number of the certificate, and how many plans there were as it was read. */
    private List<int[]> numbers = null;

    private int variables;
    private final List<int[]> domains = new ArrayList<>();
    private final List<List<Integer>> rules = new ArrayList<>();
    private final List<List<Integer>> tables = new ArrayList<>();

    /** The reading of a list ended, or met a wrong number. */
    private static final class Stop extends Exception {
        private static final long serialVersionUID = 1L;
        final int fault;

        Stop(int fault) {
            super(null, null, false, false);
            this.fault = fault;
        }
    }

    static final class Line {
        int kind;
        List<Integer> parts = new ArrayList<>();
        List<BigInteger> factors = new ArrayList<>();
        BigInteger right = BigInteger.ZERO;
        TreeSet<Integer> assumptions = new TreeSet<>();
        BigInteger limit = null;
        TreeSet<Integer> needs = new TreeSet<>();

        boolean impossible() {
            for (BigInteger f : factors) {
                if (f.signum() != 0) {
                    return false;
                }
            }
            return right.signum() < 0;
        }
    }

    /** What the certificate is, read from its first number on. */
    private final class Reading {
        final List<Line> lines = new ArrayList<>();
        int fault = 0;
        int faultRow = -1;
        int faultPlace = -1;
        int branches = 0;
        private int place = 0;

        Reading() {
            try {
                if (numbers != null) {
                    whole();
                }
            } catch (Stop stop) {
                if (stop.fault != 0) {
                    fault = stop.fault;
                    faultRow = place == 1 ? -1 : lines.size();
                    faultPlace = place - 1;
                }
            }
        }

        private int next() throws Stop {
            if (place == numbers.size()) {
                throw new Stop(0);
            }
            place++;
            if (place == 1501) {
                throw new Stop(9);
            }
            return numbers.get(place - 1)[0];
        }

        private void whole() throws Stop {
            if (next() != digest()) {
                throw new Stop(1);
            }
            for (;;) {
                line();
            }
        }

        private int within(Line line, int lowest, int highest, int otherwise) throws Stop {
            int number = next();
            if (number < lowest || number > highest) {
                throw new Stop(otherwise);
            }
            line.parts.add(number);
            return number;
        }

        private Line source(Line line) throws Stop {
            int r = within(line, 0, lines.size() - 1, 4);
            line.needs.add(r);
            line.needs.addAll(lines.get(r).needs);
            return lines.get(r);
        }

        private void heir(Line line, Line of) {
            line.assumptions.addAll(of.assumptions);
            limitHeir(line, of);
        }

        private void limitHeir(Line line, Line of) {
            if (of.limit != null) {
                line.limit = line.limit == null ? of.limit : line.limit.min(of.limit);
            }
        }

        private void line() throws Stop {
            Line line = new Line();
            for (int v = 0; v < variables; v++) {
                line.factors.add(BigInteger.ZERO);
            }
            line.kind = next();
            if (line.kind < 0 || line.kind > 9) {
                throw new Stop(2);
            }
            if (lines.size() == 200 || line.kind == 6 && branches == 60) {
                throw new Stop(9);
            }
            line.needs.add(lines.size());
            if (line.kind < 4) {
                plain(line);
            } else {
                made(line);
            }
            for (BigInteger f : line.factors) {
                limitSize(f);
            }
            limitSize(line.right);
            if (line.kind == 6) {
                branches++;
            }
            lines.add(line);
        }

        private void limitSize(BigInteger f) throws Stop {
            if (f.abs().compareTo(MOST) > 0) {
                throw new Stop(8);
            }
        }

        private void plain(Line line) throws Stop {
            if (line.kind == 0) {
                List<Integer> rule = rules.get(within(line, 0, rules.size() - 1, 3));
                for (int v = 0; v < variables; v++) {
                    line.factors.set(v, big(rule.get(v)));
                }
                line.right = big(rule.get(variables));
            } else if (line.kind == 3) {
                List<Integer> table = tables.get(within(line, 0, tables.size() - 1, 4));
                int b = within(line, -100, 100, 3);
                int c = within(line, -100, 100, 3);
                line.factors.set(table.get(0), big(b));
                line.factors.set(table.get(1), big(c));
                TreeSet<Integer> sums = new TreeSet<>();
                for (int i = 2; i < table.size(); i += 2) {
                    sums.add(b * table.get(i) + c * table.get(i + 1));
                }
                line.right = big(sums.last());
            } else {
                int v = within(line, 0, variables - 1, 3);
                line.factors.set(v, big(line.kind == 1 ? 1 : -1));
                line.right = big(line.kind == 1 ? domains.get(v)[1] : -domains.get(v)[0]);
            }
        }

        private void made(Line line) throws Stop {
            switch (line.kind) {
                case 4:
                    sum(line);
                    break;
                case 5:
                    divided(line);
                    break;
                case 6:
                    int a = within(line, 0, variables - 1, 3);
                    int b = within(line, -1000, 1000, 3);
                    int c = within(line, 0, 1, 3);
                    line.factors.set(a, big(c == 0 ? 1 : -1));
                    line.right = big(c == 0 ? b : -(b + 1));
                    line.assumptions.add(lines.size());
                    break;
                case 7:
                    join(line);
                    break;
                case 8:
                    better(line);
                    break;
                default:
                    push(line);
                    break;
            }
        }

        private void sum(Line line) throws Stop {
            int n = within(line, 1, 4, 3);
            for (int i = 0; i < n; i++) {
                Line of = source(line);
                BigInteger often = big(within(line, 1, 1000, 3));
                for (int v = 0; v < variables; v++) {
                    line.factors.set(v, line.factors.get(v).add(of.factors.get(v).multiply(often)));
                }
                line.right = line.right.add(of.right.multiply(often));
                heir(line, of);
            }
        }

        private void divided(Line line) throws Stop {
            Line of = source(line);
            BigInteger b = big(within(line, 2, 1000, 3));
            for (int v = 0; v < variables; v++) {
                BigInteger[] both = of.factors.get(v).divideAndRemainder(b);
                if (both[1].signum() != 0) {
                    throw new Stop(5);
                }
                line.factors.set(v, both[0]);
            }
            line.right = floor(of.right, b);
            heir(line, of);
        }

        private void join(Line line) throws Stop {
            Line a = source(line);
            Line b = source(line);
            Line c = source(line);
            Line d = source(line);
            if (c.kind != 6 || d.kind != 6 || !c.parts.subList(0, 2).equals(d.parts.subList(0, 2))
                    || c.parts.get(2) != 0 || d.parts.get(2) != 1) {
                throw new Stop(6);
            }
            if (a.factors.equals(b.factors)) {
                line.factors = a.factors;
                line.right = a.right.max(b.right);
            } else if (a.impossible() != b.impossible()) {
                Line other = a.impossible() ? b : a;
                line.factors = other.factors;
                line.right = other.right;
            } else {
                throw new Stop(7);
            }
            TreeSet<Integer> ofA = new TreeSet<>(a.assumptions);
            ofA.remove(line.parts.get(2));
            TreeSet<Integer> ofB = new TreeSet<>(b.assumptions);
            ofB.remove(line.parts.get(3));
            line.assumptions.addAll(ofA);
            line.assumptions.addAll(ofB);
            limitHeir(line, a);
            limitHeir(line, b);
        }

        private void better(Line line) throws Stop {
            int plansThen = place < numbers.size() ? numbers.get(place)[1] : 0;
            int p = within(line, 0, plansThen - 1, 4);
            if (breaks(p) != -1) {
                throw new Stop(4);
            }
            for (int v = 0; v < variables; v++) {
                line.factors.set(v, big(domains.get(v)[2]));
            }
            line.limit = big(cost(p));
            line.right = line.limit.subtract(BigInteger.ONE);
        }

        private void push(Line line) throws Stop {
            Line of = source(line);
            int b = within(line, 0, variables - 1, 3);
            BigInteger f = of.factors.get(b);
            if (f.signum() == 0) {
                throw new Stop(5);
            }
            BigInteger r = of.right;
            for (int v = 0; v < variables; v++) {
                if (v != b) {
                    BigInteger low = of.factors.get(v).multiply(big(domains.get(v)[0]));
                    BigInteger high = of.factors.get(v).multiply(big(domains.get(v)[1]));
                    r = r.subtract(low.min(high));
                }
            }
            line.factors.set(b, big(f.signum()));
            line.right = floor(r, f.abs());
            heir(line, of);
        }
    }

    private static BigInteger big(long number) {
        return BigInteger.valueOf(number);
    }

    private static BigInteger floor(BigInteger a, BigInteger b) {
        BigInteger[] both = a.divideAndRemainder(b);
        return both[1].signum() < 0 ? both[0].subtract(BigInteger.ONE) : both[0];
    }

    int put(int n, int a, int b, int c, int d) {
        if (n < 1 || n > 4) {
            return -3;
        }
        if (tape.size() + n > 1000) {
            return -5;
        }
        tape.addAll(List.of(a, b, c, d).subList(0, n));
        return tape.size();
    }

    int drop() {
        return takeTape().size();
    }

    private List<Integer> takeTape() {
        List<Integer> taken = tape;
        tape = new ArrayList<>();
        return taken;
    }

    /** Where the reading of a model stands. */
    private static final class Cursor {
        final List<Integer> from;
        int place = 0;

        Cursor(List<Integer> from) {
            this.from = from;
        }

        int next(int lowest, int highest) throws Stop {
            if (place >= from.size() || from.get(place) < lowest || from.get(place) > highest) {
                throw new Stop(1);
            }
            place++;
            return from.get(place - 1);
        }
    }

    int model() {
        List<Integer> read = takeTape();
        Oracle other = new Oracle();
        Cursor at = new Cursor(read);
        try {
            other.fill(at);
        } catch (Stop stop) {
            return -10 - at.place;
        }
        modelNumbers = read;
        variables = other.variables;
        domains.clear();
        domains.addAll(other.domains);
        rules.clear();
        rules.addAll(other.rules);
        tables.clear();
        tables.addAll(other.tables);
        plans.clear();
        numbers = null;
        return 1;
    }

    private void fill(Cursor at) throws Stop {
        variables = at.next(1, 8);
        for (int v = 0; v < variables; v++) {
            int low = at.next(-1000, 1000);
            int high = at.next(low, 1000);
            domains.add(new int[] {low, high, at.next(-100, 100)});
        }
        int many = at.next(0, 20);
        for (int r = 0; r < many; r++) {
            List<Integer> rule = new ArrayList<>();
            for (int v = 0; v < variables; v++) {
                rule.add(at.next(-100, 100));
            }
            rule.add(at.next(-100000, 100000));
            rules.add(rule);
        }
        many = at.next(0, 4);
        for (int t = 0; t < many; t++) {
            List<Integer> table = new ArrayList<>();
            int a = at.next(0, variables - 1);
            int b = at.next(0, variables - 1);
            if (a == b) {
                at.place--;
                throw new Stop(1);
            }
            table.add(a);
            table.add(b);
            int pairs = at.next(1, 20);
            for (int p = 0; p < 2 * pairs; p++) {
                table.add(at.next(-1000, 1000));
            }
            tables.add(table);
        }
        if (at.place != at.from.size()) {
            throw new Stop(1);
        }
    }

    int plan() {
        List<Integer> read = takeTape();
        if (modelNumbers == null) {
            return -4;
        }
        if (read.size() != variables) {
            return -3;
        }
        for (int number : read) {
            if (Math.abs((long) number) > 1000000) {
                return -3;
            }
        }
        if (plans.size() == 8) {
            return -5;
        }
        plans.add(read);
        return plans.size() - 1;
    }

    private boolean noPlan(int plan) {
        return plan < 0 || plan >= plans.size();
    }

    int breaks(int plan) {
        if (noPlan(plan)) {
            return -2;
        }
        List<Integer> p = plans.get(plan);
        for (int v = 0; v < variables; v++) {
            if (p.get(v) < domains.get(v)[0] || p.get(v) > domains.get(v)[1]) {
                return v;
            }
        }
        for (int r = 0; r < rules.size(); r++) {
            long sum = 0;
            for (int v = 0; v < variables; v++) {
                sum += (long) rules.get(r).get(v) * p.get(v);
            }
            if (sum > rules.get(r).get(variables)) {
                return 100 + r;
            }
        }
        for (int t = 0; t < tables.size(); t++) {
            List<Integer> table = tables.get(t);
            boolean found = false;
            for (int i = 2; i < table.size(); i += 2) {
                found |= table.subList(i, i + 2).equals(List.of(p.get(table.get(0)), p.get(table.get(1))));
            }
            if (!found) {
                return 200 + t;
            }
        }
        return -1;
    }

    long cost(int plan) {
        if (noPlan(plan)) {
            return Checks.THROWS_INDEX;
        }
        long sum = 0;
        for (int v = 0; v < variables; v++) {
            sum += (long) domains.get(v)[2] * plans.get(plan).get(v);
        }
        return sum;
    }

    int digest() {
        if (modelNumbers == null) {
            return 0;
        }
        int h = 17;
        for (int number : modelNumbers) {
            h = 31 * h + number;
        }
        return h;
    }

    int begin() {
        if (modelNumbers == null) {
            return -4;
        }
        int had = told(7);
        numbers = new ArrayList<>();
        return had;
    }

    int read() {
        List<Integer> read = takeTape();
        if (numbers == null) {
            return -4;
        }
        Reading before = new Reading();
        if (before.fault != 0) {
            return -10 - before.fault;
        }
        for (int number : read) {
            numbers.add(new int[] {number, plans.size()});
        }
        Reading now = new Reading();
        if (now.fault != 0) {
            numbers = new ArrayList<>(numbers.subList(0, now.faultPlace + 1));
            return -10 - now.fault;
        }
        return now.lines.size();
    }

    int fault(int what) {
        Reading now = new Reading();
        return what == 0 ? now.fault : what == 1 ? now.faultRow : what == 2 ? now.faultPlace : -3;
    }

    private Line lineAt(int row) {
        List<Line> lines = new Reading().lines;
        return row < 0 || row >= lines.size() ? null : lines.get(row);
    }

    long row(int row, int what) {
        Line line = lineAt(row);
        if (line == null || what < 0 || what > 13 || what >= variables && what < 8) {
            return Checks.THROWS_INDEX;
        }
        switch (what) {
            case 8:
                return line.right.longValueExact();
            case 9:
                return line.assumptions.size();
            case 10:
                return line.limit == null ? 0 : 1;
            case 11:
                return line.limit == null ? 0 : line.limit.longValueExact();
            case 12:
                return line.kind;
            case 13:
                return line.needs.size();
            default:
                return line.factors.get(what).longValueExact();
        }
    }

    long assumes(int row, int i) {
        Line line = lineAt(row);
        if (line == null) {
            return Checks.THROWS_INDEX;
        }
        List<Integer> all = new ArrayList<>(line.assumptions);
        return i < 0 || i >= all.size() ? -1 : all.get(i);
    }

    private static boolean says(Line line, List<Integer> plan) {
        BigInteger sum = BigInteger.ZERO;
        for (int v = 0; v < plan.size(); v++) {
            sum = sum.add(line.factors.get(v).multiply(big(plan.get(v))));
        }
        return sum.compareTo(line.right) <= 0;
    }

    long holds(int row, int plan) {
        Line line = lineAt(row);
        if (line == null || noPlan(plan)) {
            return Checks.THROWS_INDEX;
        }
        for (int branch : line.assumptions) {
            if (!says(lineAt(branch), plans.get(plan))) {
                return 2;
            }
        }
        if (line.limit != null && big(cost(plan)).compareTo(line.limit) >= 0) {
            return 2;
        }
        return says(line, plans.get(plan)) ? 1 : 0;
    }

    int proved() {
        int found = 0;
        for (Line line : new Reading().lines) {
            if (line.impossible() && line.assumptions.isEmpty()) {
                if (line.limit == null) {
                    return 1;
                }
                found = 2;
            }
        }
        return found;
    }

    long best() {
        if (proved() == 2) {
            for (Line line : new Reading().lines) {
                if (line.impossible() && line.assumptions.isEmpty()) {
                    return line.limit.longValueExact();
                }
            }
        }
        return Checks.THROWS_STATE;
    }

    long least() {
        TreeSet<BigInteger> bounds = new TreeSet<>();
        for (Line line : new Reading().lines) {
            BigInteger costs = BigInteger.ZERO;
            BigInteger factors = BigInteger.ZERO;
            for (int v = 0; v < variables; v++) {
                costs = costs.gcd(big(domains.get(v)[2]));
                factors = factors.gcd(line.factors.get(v));
            }
            if (costs.signum() == 0 || factors.signum() == 0 || !line.assumptions.isEmpty() || line.limit != null) {
                continue;
            }
            BigInteger m = factors.divide(costs);
            boolean fits = true;
            for (int v = 0; v < variables; v++) {
                fits &= line.factors.get(v).equals(m.negate().multiply(big(domains.get(v)[2])));
            }
            if (fits) {
                bounds.add(floor(line.right, m).negate());
            }
        }
        return bounds.isEmpty() ? Checks.THROWS_STATE : bounds.last().longValueExact();
    }

    long trim(int row) {
        Line line = lineAt(row);
        if (line == null) {
            return Checks.THROWS_INDEX;
        }
        TreeMap<Integer, Integer> anew = new TreeMap<>();
        List<int[]> left = new ArrayList<>();
        left.add(new int[] {digest(), 0});
        for (int r : line.needs) {
            anew.put(r, anew.size());
            Line kept = lineAt(r);
            left.add(new int[] {kept.kind, 0});
            for (int i = 0; i < kept.parts.size(); i++) {
                int number = kept.parts.get(i);
                boolean isRow = kept.kind == 4 && i % 2 == 1 || kept.kind == 7
                        || (kept.kind == 5 || kept.kind == 9) && i == 0;
                left.add(new int[] {isRow ? anew.get(number) : number, plans.size()});
            }
        }
        numbers = left;
        return anew.size();
    }

    /**
     * How often what stands is wrong of the good plans, all of which are tried; 0, if there are
     * too many to try.
     */
    int untruths() {
        long box = 1;
        for (int[] domain : domains) {
            box = Math.min(5000, box * (domain[1] - domain[0] + 1));
        }
        if (modelNumbers == null || box >= 5000) {
            return 0;
        }
        Oracle judge = new Oracle();
        judge.variables = variables;
        judge.domains.addAll(domains);
        judge.rules.addAll(rules);
        judge.tables.addAll(tables);
        judge.addGoodPlans(new ArrayList<>());
        return judge.untruthsOf(new Reading().lines, proved(), best(), least());
    }

    private void addGoodPlans(List<Integer> begun) {
        if (begun.size() == variables) {
            plans.add(new ArrayList<>(begun));
            if (breaks(plans.size() - 1) != -1) {
                plans.remove(plans.size() - 1);
            }
            return;
        }
        int[] domain = domains.get(begun.size());
        for (int number = domain[0]; number <= domain[1]; number++) {
            begun.add(number);
            addGoodPlans(begun);
            begun.remove(begun.size() - 1);
        }
    }

    private int untruthsOf(List<Line> lines, int proved, long best, long least) {
        int untruths = 0;
        long cheapest = Long.MAX_VALUE;
        for (int p = 0; p < plans.size(); p++) {
            cheapest = Math.min(cheapest, cost(p));
            for (Line line : lines) {
                boolean meant = line.limit == null || big(cost(p)).compareTo(line.limit) < 0;
                for (int branch : line.assumptions) {
                    meant &= says(lines.get(branch), plans.get(p));
                }
                if (meant && !says(line, plans.get(p))) {
                    untruths++;
                }
            }
        }
        if (proved == 1 && !plans.isEmpty() || proved == 2 && best != cheapest
                || least != Checks.THROWS_STATE && least > cheapest) {
            untruths++;
        }
        return untruths;
    }

    long number(int i) {
        return i < 0 || i >= told(7) ? Checks.THROWS_INDEX : numbers.get(i)[0];
    }

    int told(int what) {
        switch (what) {
            case 0:
                return tape.size();
            case 1:
                return variables;
            case 2:
                return rules.size();
            case 3:
                return tables.size();
            case 4:
                return plans.size();
            case 5:
                return new Reading().lines.size();
            case 6:
                return new Reading().branches;
            case 7:
                return numbers == null ? 0 : Math.min(1500, numbers.size());
            default:
                return -3;
        }
    }
}
