/**
 * The small checker of a planner: it reads a model, judges plans by its rules, and reads a
 * certificate number by number, each row of which must follow from what stands before it.
 *
 * All rows are made once, in the constructors, and used again: no call makes an object but the
 * exception that it throws.
 */
public final class PlanCertificates {

    public static final int NONE = -1, UNKNOWN = -2, OUTSIDE = -3, STATE = -4, ROOM = -5;

    private static final int MOST_ON_TAPE = 1000;
    private static final int MOST_VARIABLES = 8;
    private static final int MOST_RULES = 20;
    private static final int MOST_TABLES = 4;
    private static final int MOST_PAIRS = 20;
    private static final int MOST_PLANS = 8;
    private static final int MOST_ROWS = 200;
    private static final int MOST_BRANCHES = 60;
    private static final int MOST_NUMBERS = 1500;
    private static final int MOST_SUMMANDS = 4;

    private static final int FARTHEST_BOUND = 1000;
    private static final int GREATEST_FACTOR = 100;
    private static final int GREATEST_RIGHT = 100000;
    private static final int FARTHEST_PLAN = 1000000;
    private static final int MOST_OFTEN = 1000;
    private static final int GREATEST_DIVISOR = 1000;
    private static final long GREATEST_IN_ROW = 1000000000000L;

    /** Behind this come the places and faults that model() and read() tell. */
    private static final int REFUSED = -10;
    private static final int BROKEN_RULE = 100;
    private static final int BROKEN_TABLE = 200;

    private static final int GIVEN = 0;
    private static final int UPPER = 1;
    private static final int LOWER = 2;
    private static final int TABLE = 3;
    private static final int SUM = 4;
    private static final int DIVIDE = 5;
    private static final int BRANCH = 6;
    private static final int JOIN = 7;
    private static final int BETTER = 8;
    private static final int PUSH = 9;

    private static final int NO_FAULT = 0;
    private static final int OTHER_DIGEST = 1;
    private static final int NO_SUCH_KIND = 2;
    private static final int OUT_OF_BOUNDS = 3;
    private static final int NOT_THERE = 4;
    private static final int WRONG_FACTOR = 5;
    private static final int NO_SUCH_BRANCHES = 6;
    private static final int NOT_ALIKE = 7;
    private static final int TOO_GREAT = 8;
    private static final int TOO_MANY = 9;

    /** What the numbers of a row in a certificate mean. */
    private static final int IS_KIND = 0;
    private static final int IS_RULE = 1;
    private static final int IS_VARIABLE = 2;
    private static final int IS_TABLE = 3;
    private static final int IS_FACTOR = 4;
    private static final int IS_COUNT = 5;
    private static final int IS_ROW = 6;
    private static final int IS_OFTEN = 7;
    private static final int IS_DIVISOR = 8;
    private static final int IS_BOUND = 9;
    private static final int IS_SIDE = 10;
    private static final int IS_PLAN = 11;

    /** No row bounds the cost by this: a bound is no farther from 0 than the row's right side. */
    private static final long NO_BOUND = -GREATEST_IN_ROW - 1;

    private static final int WHAT_RIGHT = 8;
    private static final int WHAT_ASSUMPTIONS = 9;
    private static final int WHAT_LIMITED = 10;
    private static final int WHAT_LIMIT = 11;
    private static final int WHAT_KIND = 12;
    private static final int WHAT_NEEDS = 13;

    private final Tape tape;
    private final Plans plans;
    private final Certificate certificate;
    private boolean hasModel;
    private Model current;
    /** A model is read into this one, so that a refused one leaves the current one as it is. */
    private Model spare;

    public PlanCertificates() {
        tape = new Tape();
        plans = new Plans();
        certificate = new Certificate();
        current = new Model();
        spare = new Model();
    }

    public int put(int n, int a, int b, int c, int d) {
        if (n < 1 || n > 4) {
            return OUTSIDE;
        }
        if (!tape.hasRoomFor(n)) {
            return ROOM;
        }
        tape.append(a);
        if (n > 1) {
            tape.append(b);
        }
        if (n > 2) {
            tape.append(c);
        }
        if (n > 3) {
            tape.append(d);
        }
        return tape.size;
    }

    public int drop() {
        int had = tape.size;
        tape.clear();
        return had;
    }

    public int model() {
        boolean isModel = spare.fillFrom(tape);
        int place = tape.place;
        tape.clear();
        if (!isModel) {
            return REFUSED - place;
        }
        Model old = current;
        current = spare;
        spare = old;
        hasModel = true;
        plans.clear();
        certificate.end();
        return 1;
    }

    public int plan() {
        int answer = tellPlan();
        tape.clear();
        return answer;
    }

    private int tellPlan() {
        if (!hasModel) {
            return STATE;
        }
        if (!tape.isPlanOf(current.variables)) {
            return OUTSIDE;
        }
        return plans.add(tape, current.variables);
    }

    public int breaks(int plan) {
        if (!plans.has(plan)) {
            return UNKNOWN;
        }
        return current.firstBroken(plans.at(plan));
    }

    public long cost(int plan) throws IndexOutOfBoundsException {
        if (!plans.has(plan)) {
            throw new IndexOutOfBoundsException("no such plan");
        }
        return current.costOf(plans.at(plan));
    }

    public int digest() {
        return hasModel ? current.digest : 0;
    }

    public int begin() {
        if (!hasModel) {
            return STATE;
        }
        int had = certificate.size;
        certificate.start();
        return had;
    }

    public int read() {
        if (!certificate.begun) {
            tape.clear();
            return STATE;
        }
        for (int i = 0; i < tape.size; i++) {
            certificate.take(tape.at(i), current, plans);
        }
        tape.clear();
        if (certificate.faultKind != NO_FAULT) {
            return REFUSED - certificate.faultKind;
        }
        return certificate.rows.count;
    }

    public int fault(int what) {
        switch (what) {
            case 0:
                return certificate.faultKind;
            case 1:
                return certificate.faultRow;
            case 2:
                return certificate.faultPlace;
            default:
                return OUTSIDE;
        }
    }

    public long row(int row, int what) throws IndexOutOfBoundsException {
        demandRow(row);
        Row told = certificate.rows.at(row);
        if (what >= 0 && what < current.variables) {
            return told.factorOf(what);
        }
        switch (what) {
            case WHAT_RIGHT:
                return told.right;
            case WHAT_ASSUMPTIONS:
                return Long.bitCount(told.assumptions);
            case WHAT_LIMITED:
                return told.limited ? 1 : 0;
            case WHAT_LIMIT:
                return told.limited ? told.limit : 0;
            case WHAT_KIND:
                return told.kind;
            case WHAT_NEEDS:
                return certificate.markNeeded(row);
            default:
                throw new IndexOutOfBoundsException("no such what");
        }
    }

    public int assumes(int row, int i) throws IndexOutOfBoundsException {
        demandRow(row);
        return certificate.rows.assumption(row, i);
    }

    public int holds(int row, int plan) throws IndexOutOfBoundsException {
        demandRow(row);
        if (!plans.has(plan)) {
            throw new IndexOutOfBoundsException("no such plan");
        }
        Row told = certificate.rows.at(row);
        int[] numbers = plans.at(plan);
        if (!certificate.rows.keepsAssumptions(told, numbers)) {
            return 2;
        }
        if (told.limited && current.costOf(numbers) >= told.limit) {
            return 2;
        }
        return told.isKeptBy(numbers) ? 1 : 0;
    }

    public int proved() {
        if (certificate.rows.firstProof(false) != NONE) {
            return 1;
        }
        return certificate.rows.firstProof(true) != NONE ? 2 : 0;
    }

    public long best() throws IllegalStateException {
        if (certificate.rows.firstProof(false) != NONE) {
            throw new IllegalStateException("there is no plan at all");
        }
        int proof = certificate.rows.firstProof(true);
        if (proof == NONE) {
            throw new IllegalStateException("no plan is proved to be the best");
        }
        return certificate.rows.at(proof).limit;
    }

    public long least() throws IllegalStateException {
        long bound = certificate.rows.greatestBound(current.cost);
        if (bound == NO_BOUND) {
            throw new IllegalStateException("no row bounds the cost");
        }
        return bound;
    }

    public int trim(int row) throws IndexOutOfBoundsException {
        demandRow(row);
        int left = certificate.closeGaps(row);
        certificate.start();
        // The rows that are left follow from one another as before, so reading them anew makes
        // the same rows, with their new numbers.
        for (int i = 0; i < left; i++) {
            certificate.take(certificate.numberAt(i), current, plans);
        }
        return certificate.rows.count;
    }

    public int number(int i) throws IndexOutOfBoundsException {
        if (i < 0 || i >= certificate.size) {
            throw new IndexOutOfBoundsException("no such number");
        }
        return certificate.numberAt(i);
    }

    public int told(int what) {
        switch (what) {
            case 0:
                return tape.size;
            case 1:
                return hasModel ? current.variables : 0;
            case 2:
                return hasModel ? current.rules : 0;
            case 3:
                return hasModel ? current.tables : 0;
            case 4:
                return plans.count;
            case 5:
                return certificate.rows.count;
            case 6:
                return certificate.rows.branchCount;
            case 7:
                return certificate.size;
            default:
                return OUTSIDE;
        }
    }

    private void demandRow(int row) {
        if (!certificate.rows.has(row)) {
            throw new IndexOutOfBoundsException("no such row");
        }
    }

    /**
     * THE TAPE, with a reader that stops for good at the first number that is not as it should be.
     */
    static final class Tape {
        private final int[] numbers = new int[MOST_ON_TAPE];
        int size;
        /** Where the reader stands: behind a wrong number it never goes. */
        int place;
        private boolean good;

        boolean hasRoomFor(int n) {
            return n <= numbers.length - size;
        }

        void append(int number) {
            if (size >= 0 && size < numbers.length) {
                numbers[size] = number;
                size++;
            }
        }

        void clear() {
            size = 0;
        }

        int at(int i) {
            return i >= 0 && i < size && i < numbers.length ? numbers[i] : 0;
        }

        void rewind() {
            place = 0;
            good = true;
        }

        /** The next number; lowest, once the reader has stopped. */
        int next(int lowest, int highest) {
            if (!good) {
                return lowest;
            }
            if (place >= size || !Numbers.isWithin(at(place), lowest, highest)) {
                good = false;
                return lowest;
            }
            int number = at(place);
            place++;
            return number;
        }

        /** The next number, which must be another one than this. */
        int nextBut(int other, int lowest, int highest) {
            if (place < size && at(place) == other) {
                good = false;
            }
            return next(lowest, highest);
        }

        boolean isReadWhole() {
            return good && place == size;
        }

        boolean isPlanOf(int variables) {
            rewind();
            for (int v = 0; v < variables; v++) {
                next(-FARTHEST_PLAN, FARTHEST_PLAN);
            }
            return isReadWhole();
        }

        int digestOfAll() {
            int h = 17;
            for (int i = 0; i < size; i++) {
                h = 31 * h + at(i);
            }
            return h;
        }
    }

    /**
     * THE MODEL. The variables that it does not have are 0 to 0 with cost and factors 0, so that
     * plans and rows are always of eight numbers.
     */
    static final class Model {
        int variables;
        int rules;
        int tables;
        int digest;
        private final int[] low = new int[MOST_VARIABLES];
        private final int[] high = new int[MOST_VARIABLES];
        final int[] cost = new int[MOST_VARIABLES];
        private final int[][] factors = new int[MOST_RULES][MOST_VARIABLES];
        private final int[] right = new int[MOST_RULES];
        private final int[] first = new int[MOST_TABLES];
        private final int[] second = new int[MOST_TABLES];
        private final int[] pairs = new int[MOST_TABLES];
        private final int[][] firstOfPair = new int[MOST_TABLES][MOST_PAIRS];
        private final int[][] secondOfPair = new int[MOST_TABLES][MOST_PAIRS];

        /** Whether the whole tape is a model; if not, the tape's place is where it is wrong. */
        boolean fillFrom(Tape tape) {
            tape.rewind();
            variables = tape.next(1, MOST_VARIABLES);
            for (int v = 0; v < MOST_VARIABLES; v++) {
                fillVariable(tape, v);
            }
            rules = tape.next(0, MOST_RULES);
            for (int r = 0; r < MOST_RULES && r < rules; r++) {
                for (int v = 0; v < MOST_VARIABLES; v++) {
                    factors[r][v] = v < variables ? tape.next(-GREATEST_FACTOR, GREATEST_FACTOR) : 0;
                }
                right[r] = tape.next(-GREATEST_RIGHT, GREATEST_RIGHT);
            }
            tables = tape.next(0, MOST_TABLES);
            for (int t = 0; t < MOST_TABLES && t < tables; t++) {
                fillTable(tape, t);
            }
            digest = tape.digestOfAll();
            return tape.isReadWhole();
        }

        private void fillVariable(Tape tape, int v) {
            boolean isThere = v < variables;
            low[v] = isThere ? tape.next(-FARTHEST_BOUND, FARTHEST_BOUND) : 0;
            high[v] = isThere ? tape.next(low[v], FARTHEST_BOUND) : 0;
            cost[v] = isThere ? tape.next(-GREATEST_FACTOR, GREATEST_FACTOR) : 0;
        }

        private void fillTable(Tape tape, int t) {
            first[t] = tape.next(0, variables - 1);
            second[t] = tape.nextBut(first[t], 0, variables - 1);
            pairs[t] = tape.next(1, MOST_PAIRS);
            for (int p = 0; p < MOST_PAIRS && p < pairs[t]; p++) {
                firstOfPair[t][p] = tape.next(-FARTHEST_BOUND, FARTHEST_BOUND);
                secondOfPair[t][p] = tape.next(-FARTHEST_BOUND, FARTHEST_BOUND);
            }
        }

        boolean hasVariable(int v) {
            return v >= 0 && v < variables && v < MOST_VARIABLES;
        }

        boolean hasRule(int r) {
            return r >= 0 && r < rules && r < MOST_RULES;
        }

        boolean hasTable(int t) {
            return t >= 0 && t < tables && t < MOST_TABLES;
        }

        int lowOf(int v) {
            return hasVariable(v) ? low[v] : 0;
        }

        int highOf(int v) {
            return hasVariable(v) ? high[v] : 0;
        }

        long costOf(int[] plan) {
            return Numbers.sumOf(cost, plan);
        }

        /** What a plan breaks first, as breaks() tells it. */
        int firstBroken(int[] plan) {
            for (int v = 0; v < MOST_VARIABLES; v++) {
                if (!Numbers.isWithin(Numbers.at(plan, v), low[v], high[v])) {
                    return v;
                }
            }
            for (int r = 0; r < MOST_RULES && r < rules; r++) {
                if (Numbers.sumOf(factors[r], plan) > right[r]) {
                    return BROKEN_RULE + r;
                }
            }
            for (int t = 0; t < MOST_TABLES && t < tables; t++) {
                if (!hasPair(t, Numbers.at(plan, first[t]), Numbers.at(plan, second[t]))) {
                    return BROKEN_TABLE + t;
                }
            }
            return NONE;
        }

        private boolean hasPair(int t, int x, int y) {
            for (int p = 0; p < MOST_PAIRS && p < pairs[t]; p++) {
                if (firstOfPair[t][p] == x && secondOfPair[t][p] == y) {
                    return true;
                }
            }
            return false;
        }

        void copyRule(int r, Row made) {
            if (!hasRule(r)) {
                return;
            }
            for (int v = 0; v < MOST_VARIABLES; v++) {
                made.setFactor(v, factors[r][v]);
            }
            made.right = right[r];
        }

        void copyCosts(Row made) {
            for (int v = 0; v < MOST_VARIABLES; v++) {
                made.setFactor(v, cost[v]);
            }
        }

        /** Makes the row that the pairs of a table keep: b times its first, c times its second. */
        void copyTable(int t, int b, int c, Row made) {
            if (!hasTable(t)) {
                return;
            }
            made.setFactor(first[t], b);
            made.setFactor(second[t], c);
            for (int p = 0; p < MOST_PAIRS && p < pairs[t]; p++) {
                long sum = (long) b * firstOfPair[t][p] + (long) c * secondOfPair[t][p];
                if (p == 0 || sum > made.right) {
                    made.right = sum;
                }
            }
        }
    }

    /** The plans that have been told of the current model. */
    static final class Plans {
        private final int[][] numbers = new int[MOST_PLANS][MOST_VARIABLES];
        private final int[] noPlan = new int[MOST_VARIABLES];
        int count;

        void clear() {
            count = 0;
        }

        boolean has(int plan) {
            return plan >= 0 && plan < count && plan < MOST_PLANS;
        }

        int[] at(int plan) {
            return has(plan) ? numbers[plan] : noPlan;
        }

        /** The new plan's number, or ROOM. */
        int add(Tape tape, int variables) {
            if (count < 0 || count >= MOST_PLANS) {
                return ROOM;
            }
            for (int v = 0; v < MOST_VARIABLES; v++) {
                numbers[count][v] = v < variables ? tape.at(v) : 0;
            }
            count++;
            return count - 1;
        }
    }

    /** A ROW of the certificate, and where its numbers stand there. */
    static final class Row {
        private final long[] factors = new long[MOST_VARIABLES];
        long right;
        /** A bit for each branch, by its place among the branches. */
        long assumptions;
        boolean limited;
        long limit;
        int kind;
        int start;
        int length;
        /** Of a BRANCH alone: its numbers. */
        int variable;
        int bound;
        int side;

        void clear() {
            for (int v = 0; v < MOST_VARIABLES; v++) {
                factors[v] = 0;
            }
            right = 0;
            assumptions = 0;
            limited = false;
            limit = 0;
        }

        void setFactor(int v, long factor) {
            if (v >= 0 && v < MOST_VARIABLES) {
                factors[v] = factor;
            }
        }

        long factorOf(int v) {
            return v >= 0 && v < MOST_VARIABLES ? factors[v] : 0;
        }

        /** Says that factor times a variable is at most this. */
        void setSingle(int v, long factor, long atMost) {
            setFactor(v, factor);
            right = atMost;
        }

        void setLimit(long cost) {
            limited = true;
            limit = cost;
        }

        void inheritAssumptions(Row other) {
            assumptions |= other.assumptions;
        }

        void inheritLimit(Row other) {
            if (other.limited && (!limited || other.limit < limit)) {
                setLimit(other.limit);
            }
        }

        void addTimes(Row other, long often) {
            for (int v = 0; v < MOST_VARIABLES; v++) {
                factors[v] += often * other.factors[v];
            }
            right += often * other.right;
        }

        boolean isMadeOfZeros() {
            for (int v = 0; v < MOST_VARIABLES; v++) {
                if (factors[v] != 0) {
                    return false;
                }
            }
            return true;
        }

        boolean isImpossible() {
            return right < 0 && isMadeOfZeros();
        }

        boolean hasFactorsOf(Row other) {
            for (int v = 0; v < MOST_VARIABLES; v++) {
                if (factors[v] != other.factors[v]) {
                    return false;
                }
            }
            return true;
        }

        boolean isTooGreat() {
            for (int v = 0; v < MOST_VARIABLES; v++) {
                if (factors[v] < -GREATEST_IN_ROW || factors[v] > GREATEST_IN_ROW) {
                    return true;
                }
            }
            return right < -GREATEST_IN_ROW || right > GREATEST_IN_ROW;
        }

        boolean isBranch(int atSide) {
            return kind == BRANCH && side == atSide;
        }

        /** The sum stays within a long: 8 factors of 10^12 at most times numbers of 10^6. */
        boolean isKeptBy(int[] plan) {
            long sum = 0;
            for (int v = 0; v < MOST_VARIABLES; v++) {
                sum += factors[v] * Numbers.at(plan, v);
            }
            return sum <= right;
        }

        /** The m by which the factors are -m times the costs; 0, if there is none. */
        private long timesLessCosts(int[] cost) {
            long m = 0;
            for (int v = 0; v < MOST_VARIABLES && m == 0; v++) {
                int price = Numbers.at(cost, v);
                if (price != 0) {
                    m = -(factors[v] / price);
                    if (m < 1) {
                        return 0;
                    }
                }
            }
            for (int v = 0; v < MOST_VARIABLES; v++) {
                if (factors[v] != -m * Numbers.at(cost, v)) {
                    return 0;
                }
            }
            return m;
        }

        /** What, by this row, every good plan costs at least; NO_BOUND, if it does not say so. */
        long boundOfCost(int[] cost) {
            if (assumptions != 0 || limited) {
                return NO_BOUND;
            }
            long m = timesLessCosts(cost);
            return m < 1 ? NO_BOUND : -Math.floorDiv(right, m);
        }
    }

    /** The rows that stand, and which of them are branches. */
    static final class Rows {
        private final Row[] rows = new Row[MOST_ROWS];
        private final Row noRow = new Row();
        private final int[] branches = new int[MOST_BRANCHES];
        int count;
        int branchCount;

        Rows() {
            for (int i = 0; i < MOST_ROWS; i++) {
                rows[i] = new Row();
            }
        }

        void clear() {
            count = 0;
            branchCount = 0;
        }

        boolean has(int row) {
            return row >= 0 && row < count && row < MOST_ROWS;
        }

        Row at(int row) {
            return has(row) ? rows[row] : noRow;
        }

        boolean areFull() {
            return count >= MOST_ROWS;
        }

        boolean areBranchesFull() {
            return branchCount >= MOST_BRANCHES;
        }

        /** The row behind those that stand: it does not stand itself before keepFresh(). */
        Row fresh() {
            Row row = count >= 0 && count < MOST_ROWS ? rows[count] : noRow;
            row.clear();
            return row;
        }

        void keepFresh() {
            if (count < 0 || areFull()) {
                return;
            }
            if (rows[count].kind == BRANCH && branchCount >= 0 && !areBranchesFull()) {
                rows[count].assumptions = 1L << branchCount;
                branches[branchCount] = count;
                branchCount++;
            }
            count++;
        }

        /** The number of the i-th branch that a row assumes. */
        int assumption(int row, int i) {
            long assumptions = at(row).assumptions;
            int before = 0;
            for (int b = 0; b < MOST_BRANCHES && b < branchCount; b++) {
                if ((assumptions >> b & 1L) != 0) {
                    if (before == i) {
                        return branches[b];
                    }
                    before++;
                }
            }
            return NONE;
        }

        boolean keepsAssumptions(Row row, int[] plan) {
            for (int b = 0; b < MOST_BRANCHES && b < branchCount; b++) {
                if ((row.assumptions >> b & 1L) != 0 && !at(branches[b]).isKeptBy(plan)) {
                    return false;
                }
            }
            return true;
        }

        /** The first impossible row without assumptions, with or without a limit. */
        int firstProof(boolean limited) {
            for (int r = 0; r < MOST_ROWS && r < count; r++) {
                Row row = rows[r];
                if (row.assumptions == 0 && row.limited == limited && row.isImpossible()) {
                    return r;
                }
            }
            return NONE;
        }

        long greatestBound(int[] cost) {
            long greatest = NO_BOUND;
            for (int r = 0; r < MOST_ROWS && r < count; r++) {
                greatest = Math.max(greatest, rows[r].boundOfCost(cost));
            }
            return greatest;
        }
    }

    /** The row that is being read, up to its last number; then it makes the row of them. */
    static final class Draft {
        private final int[] parts = new int[2 + 2 * MOST_SUMMANDS];
        int count;

        void clear() {
            count = 0;
        }

        /** What the number at a place of a row means; the kind is at place 0. */
        static int meaningAt(int kind, int place) {
            if (place == 0) {
                return IS_KIND;
            }
            switch (kind) {
                case GIVEN:
                    return IS_RULE;
                case UPPER:
                case LOWER:
                    return IS_VARIABLE;
                case TABLE:
                    return place == 1 ? IS_TABLE : IS_FACTOR;
                case SUM:
                    return place == 1 ? IS_COUNT : (place & 1) == 0 ? IS_ROW : IS_OFTEN;
                case DIVIDE:
                    return place == 1 ? IS_ROW : IS_DIVISOR;
                case BRANCH:
                    return place == 1 ? IS_VARIABLE : place == 2 ? IS_BOUND : IS_SIDE;
                case JOIN:
                    return IS_ROW;
                case BETTER:
                    return IS_PLAN;
                case PUSH:
                default:
                    return place == 1 ? IS_ROW : IS_VARIABLE;
            }
        }

        private int wholeLength() {
            switch (parts[0]) {
                case SUM:
                    return 2 + 2 * parts[1];
                case TABLE:
                case BRANCH:
                    return 4;
                case DIVIDE:
                case PUSH:
                    return 3;
                case JOIN:
                    return 5;
                default:
                    return 2;
            }
        }

        /** No kind is whole before its second number, which a SUM's length needs. */
        boolean isWhole() {
            return count >= 2 && count >= wholeLength();
        }

        void add(int number) {
            if (count >= 0 && count < parts.length) {
                parts[count] = number;
                count++;
            }
        }

        /** The fault of the next number, before it is added. */
        int faultOf(int number, Rows rows, Model model, Plans plans) {
            switch (meaningAt(parts[0], count)) {
                case IS_KIND:
                    return faultOfKind(number, rows);
                case IS_ROW:
                    return rows.has(number) ? NO_FAULT : NOT_THERE;
                case IS_TABLE:
                    return model.hasTable(number) ? NO_FAULT : NOT_THERE;
                case IS_PLAN:
                    return isGoodPlan(number, model, plans) ? NO_FAULT : NOT_THERE;
                case IS_RULE:
                    return model.hasRule(number) ? NO_FAULT : OUT_OF_BOUNDS;
                case IS_VARIABLE:
                    return model.hasVariable(number) ? NO_FAULT : OUT_OF_BOUNDS;
                case IS_FACTOR:
                    return faultBeyond(number, -GREATEST_FACTOR, GREATEST_FACTOR);
                case IS_COUNT:
                    return faultBeyond(number, 1, MOST_SUMMANDS);
                case IS_OFTEN:
                    return faultBeyond(number, 1, MOST_OFTEN);
                case IS_DIVISOR:
                    return faultBeyond(number, 2, GREATEST_DIVISOR);
                case IS_BOUND:
                    return faultBeyond(number, -FARTHEST_BOUND, FARTHEST_BOUND);
                case IS_SIDE:
                default:
                    return faultBeyond(number, 0, 1);
            }
        }

        private static int faultOfKind(int kind, Rows rows) {
            if (!Numbers.isWithin(kind, GIVEN, PUSH)) {
                return NO_SUCH_KIND;
            }
            if (rows.areFull() || kind == BRANCH && rows.areBranchesFull()) {
                return TOO_MANY;
            }
            return NO_FAULT;
        }

        private static boolean isGoodPlan(int plan, Model model, Plans plans) {
            return plans.has(plan) && model.firstBroken(plans.at(plan)) == NONE;
        }

        private static int faultBeyond(int number, int lowest, int highest) {
            return Numbers.isWithin(number, lowest, highest) ? NO_FAULT : OUT_OF_BOUNDS;
        }

        /** Makes the row of the numbers read; tells the fault of them that shows only then. */
        int make(Row made, Rows rows, Model model, Plans plans) {
            made.kind = parts[0];
            made.length = count;
            switch (parts[0]) {
                case GIVEN:
                    model.copyRule(parts[1], made);
                    return NO_FAULT;
                case UPPER:
                    made.setSingle(parts[1], 1, model.highOf(parts[1]));
                    return NO_FAULT;
                case LOWER:
                    made.setSingle(parts[1], -1, -model.lowOf(parts[1]));
                    return NO_FAULT;
                case TABLE:
                    model.copyTable(parts[1], parts[2], parts[3], made);
                    return NO_FAULT;
                case SUM:
                    return fillSum(made, rows);
                case DIVIDE:
                    return fillDivided(made, rows.at(parts[1]), parts[2]);
                case BRANCH:
                    return fillBranch(made);
                case JOIN:
                    return fillJoined(made, rows);
                case BETTER:
                    return fillBetter(made, model, plans);
                case PUSH:
                default:
                    return fillPushed(made, rows.at(parts[1]), parts[2], model);
            }
        }

        private int fillSum(Row made, Rows rows) {
            for (int i = 2; i + 1 < count && i + 1 < parts.length; i += 2) {
                Row summand = rows.at(parts[i]);
                made.addTimes(summand, parts[i + 1]);
                made.inheritAssumptions(summand);
                made.inheritLimit(summand);
            }
            return NO_FAULT;
        }

        private static int fillDivided(Row made, Row from, int divisor) {
            if (divisor < 2) {
                return OUT_OF_BOUNDS;
            }
            for (int v = 0; v < MOST_VARIABLES; v++) {
                if (from.factorOf(v) % divisor != 0) {
                    return WRONG_FACTOR;
                }
                made.setFactor(v, from.factorOf(v) / divisor);
            }
            made.right = Math.floorDiv(from.right, (long) divisor);
            made.inheritAssumptions(from);
            made.inheritLimit(from);
            return NO_FAULT;
        }

        private int fillBranch(Row made) {
            made.variable = parts[1];
            made.bound = parts[2];
            made.side = parts[3];
            if (made.side == 0) {
                made.setSingle(made.variable, 1, made.bound);
            } else {
                made.setSingle(made.variable, -1, -made.bound - 1);
            }
            return NO_FAULT;
        }

        private int fillJoined(Row made, Rows rows) {
            Row a = rows.at(parts[1]);
            Row b = rows.at(parts[2]);
            Row c = rows.at(parts[3]);
            Row d = rows.at(parts[4]);
            if (!c.isBranch(0) || !d.isBranch(1) || c.variable != d.variable || c.bound != d.bound) {
                return NO_SUCH_BRANCHES;
            }
            if (a.hasFactorsOf(b)) {
                made.addTimes(a.right > b.right ? a : b, 1);
            } else if (a.isImpossible()) {
                made.addTimes(b, 1);
            } else if (b.isImpossible()) {
                made.addTimes(a, 1);
            } else {
                return NOT_ALIKE;
            }
            made.assumptions = a.assumptions & ~c.assumptions | b.assumptions & ~d.assumptions;
            made.inheritLimit(a);
            made.inheritLimit(b);
            return NO_FAULT;
        }

        private int fillBetter(Row made, Model model, Plans plans) {
            long cost = model.costOf(plans.at(parts[1]));
            model.copyCosts(made);
            made.right = cost - 1;
            made.setLimit(cost);
            return NO_FAULT;
        }

        private static int fillPushed(Row made, Row from, int pushed, Model model) {
            long factor = from.factorOf(pushed);
            if (factor == 0) {
                return WRONG_FACTOR;
            }
            long rest = from.right;
            for (int v = 0; v < MOST_VARIABLES; v++) {
                if (v != pushed) {
                    long atLow = from.factorOf(v) * model.lowOf(v);
                    long atHigh = from.factorOf(v) * model.highOf(v);
                    rest -= Math.min(atLow, atHigh);
                }
            }
            if (factor > 0) {
                made.setSingle(pushed, 1, Math.floorDiv(rest, factor));
            } else {
                made.setSingle(pushed, -1, Math.floorDiv(rest, -factor));
            }
            made.inheritAssumptions(from);
            made.inheritLimit(from);
            return NO_FAULT;
        }
    }

    /** A CERTIFICATE: its numbers, the rows that stand, and the fault that stopped it. */
    static final class Certificate {
        private final int[] numbers = new int[MOST_NUMBERS];
        int size;
        boolean begun;
        int faultKind;
        int faultRow = NONE;
        int faultPlace = NONE;
        final Rows rows = new Rows();
        private final Draft draft = new Draft();
        private final boolean[] needed = new boolean[MOST_ROWS];
        private final int[] newNumbers = new int[MOST_ROWS];

        void start() {
            end();
            begun = true;
        }

        void end() {
            begun = false;
            size = 0;
            faultKind = NO_FAULT;
            faultRow = NONE;
            faultPlace = NONE;
            rows.clear();
            draft.clear();
        }

        /** Not bounded by size: trim() reads what closeGaps() left here. */
        int numberAt(int i) {
            return i >= 0 && i < MOST_NUMBERS ? numbers[i] : 0;
        }

        private void setNumber(int i, int number) {
            if (i >= 0 && i < MOST_NUMBERS) {
                numbers[i] = number;
            }
        }

        void take(int number, Model model, Plans plans) {
            if (faultKind != NO_FAULT) {
                return;
            }
            int place = size;
            int found = TOO_MANY;
            if (place < MOST_NUMBERS) {
                setNumber(place, number);
                size++;
                found = place == 0 ? faultOfDigest(number, model) : judge(number, model, plans);
            }
            if (found != NO_FAULT) {
                faultKind = found;
                faultRow = place == 0 ? NONE : rows.count;
                faultPlace = place;
            }
        }

        private static int faultOfDigest(int number, Model model) {
            return number == model.digest ? NO_FAULT : OTHER_DIGEST;
        }

        private int judge(int number, Model model, Plans plans) {
            int found = draft.faultOf(number, rows, model, plans);
            if (found != NO_FAULT) {
                return found;
            }
            draft.add(number);
            if (!draft.isWhole()) {
                return NO_FAULT;
            }
            Row made = rows.fresh();
            made.start = size - draft.count;
            found = draft.make(made, rows, model, plans);
            if (found != NO_FAULT) {
                return found;
            }
            if (made.isTooGreat()) {
                return TOO_GREAT;
            }
            rows.keepFresh();
            draft.clear();
            return NO_FAULT;
        }

        /** Marks the rows that a row needs, and tells how many they are. */
        int markNeeded(int row) {
            for (int r = 0; r < MOST_ROWS; r++) {
                needed[r] = r == row;
            }
            int count = 0;
            for (int r = MOST_ROWS - 1; r >= 0; r--) {
                if (needed[r]) {
                    count++;
                    markSources(rows.at(r));
                }
            }
            return count;
        }

        private void markSources(Row row) {
            for (int i = 1; i < row.length; i++) {
                int source = numberAt(row.start + i);
                if (Draft.meaningAt(row.kind, i) == IS_ROW && rows.has(source)) {
                    needed[source] = true;
                }
            }
        }

        /**
         * Moves the numbers of the rows that a row needs together, with the new numbers of the
         * rows in them, and tells how many numbers are left. Rows move to the front alone, so
         * nothing is overwritten before it is moved.
         */
        int closeGaps(int row) {
            markNeeded(row);
            int left = 1;
            int kept = 0;
            for (int r = 0; r < MOST_ROWS; r++) {
                if (needed[r]) {
                    newNumbers[r] = kept;
                    kept++;
                    left = moveNumbers(rows.at(r), left);
                }
            }
            return left;
        }

        private int moveNumbers(Row row, int to) {
            for (int i = 0; i < row.length; i++) {
                int number = numberAt(row.start + i);
                if (Draft.meaningAt(row.kind, i) == IS_ROW && rows.has(number)) {
                    number = newNumbers[number];
                }
                setNumber(to + i, number);
            }
            return to + row.length;
        }
    }

    /** Small functions over whole numbers and rows of them. */
    static final class Numbers {
        static boolean isWithin(int number, int lowest, int highest) {
            return number >= lowest && number <= highest;
        }

        static int at(int[] numbers, int i) {
            return i >= 0 && i < numbers.length ? numbers[i] : 0;
        }

        /** No sum goes beyond a long: there are at most 8 factors of 100 and numbers of 10^6. */
        static long sumOf(int[] factors, int[] plan) {
            long sum = 0;
            for (int v = 0; v < factors.length && v < plan.length; v++) {
                sum += (long) factors[v] * plan[v];
            }
            return sum;
        }
    }
}
