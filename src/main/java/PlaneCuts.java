import java.util.Arrays;

/**
 * A workbench for central hyperplane arrangements in two to four dimensions.
 *
 * <p>All rows are made once, in the constructors, and used again by every call: no call makes an
 * object. What follows from the hyperplanes is worked out when a call first needs it after a change.
 */
public final class PlaneCuts {
    public static final int NONE = -1, BAD = -2, NO = -3, FULL = -4;

    private static final int BEYOND = -5;
    private static final int MOST_PLANES = 9;
    private static final int MOST_DIMENSIONS = 4;
    private static final int MOST_COEFFICIENT = 3;
    private static final int MOST_BYTES = 100;
    private static final int MOST_CHANGES = 6;
    private static final int SETS = 1 << MOST_PLANES;
    /** Of circuits, flats of one rank or base sets of one size none contains another. */
    private static final int MOST_APART = 126;
    /** Twice the sum of 1, 8, 28 and 56, for nine hyperplanes of which each four are independent. */
    private static final int MOST_REGIONS = 186;

    private final Arrangement now;
    private final Arrangement before;
    private final History history;
    private final Matroid matroid;
    private final Regions regions;
    private final ModularFlats modularFlats;
    private final FiniteFields fields;
    private final Algebra algebra;
    private final Script script;
    private int bads;
    private int noes;
    private int fulls;
    private int failedError;
    private int failedIndex;

    public PlaneCuts() {
        Arrangement plan = new Arrangement();
        Matroid ranks = new Matroid(plan);
        now = plan;
        matroid = ranks;
        before = new Arrangement();
        history = new History();
        regions = new Regions(plan, ranks);
        modularFlats = new ModularFlats(plan, ranks);
        fields = new FiniteFields(plan, ranks);
        algebra = new Algebra(plan, ranks);
        script = new Script();
        failedIndex = NONE;
    }

    public int space(int n) {
        before.copyFrom(now);
        return settled(now.restart(n));
    }

    public int plane(int a, int b, int c, int e) {
        before.copyFrom(now);
        return settled(now.add(a, b, c, e));
    }

    public int turns(int i) {
        before.copyFrom(now);
        int answer = settled(now.negate(i));
        return answer < 0 ? answer : matroid.countRegions();
    }

    public int drops(int i) {
        before.copyFrom(now);
        return settled(now.remove(i));
    }

    public int swaps(int i, int j) {
        before.copyFrom(now);
        int answer = settled(now.exchange(i, j));
        return answer < 0 ? answer : matroid.rankOf(now.all());
    }

    public int makes(int kind) {
        before.copyFrom(now);
        return settled(now.fill(kind));
    }

    public int of(int i, int j) {
        if (!now.has(i) || j < 0 || j >= now.dimensions) {
            return refused(BAD);
        }
        return now.at(i, j) + 10;
    }

    public int rank(int set) {
        return now.hasAll(set) ? matroid.rankOf(set) : refused(BAD);
    }

    public int closed(int set) {
        return now.hasAll(set) ? matroid.closureOf(set) : refused(BAD);
    }

    public int flats(int k, int i) {
        if (k < 0 || k > MOST_DIMENSIONS || i < NONE) {
            return refused(BAD);
        }
        return matroid.flatsOfRank(k).answer(i);
    }

    public int sign(int flat) {
        if (!now.hasAll(flat)) {
            return refused(BAD);
        }
        if (!matroid.isFlat(flat)) {
            return refused(NO);
        }
        return matroid.moebius(flat) + 1000;
    }

    public int rings(int i) {
        return i < NONE ? refused(BAD) : matroid.circuits().answer(i);
    }

    public int factor(int i, int plane) {
        if (i < 0 || !now.has(plane)) {
            return refused(BAD);
        }
        Listing circuits = matroid.circuits();
        if (i >= circuits.count) {
            return refused(NO);
        }
        return matroid.factorsOf(circuits.sets[i])[plane] + 10000;
    }

    public int polynomial(int set, int j) {
        if (!now.hasAll(set) || j < 0 || j > MOST_DIMENSIONS) {
            return refused(BAD);
        }
        return matroid.coefficient(set, j) + 1000;
    }

    public int value(int t) {
        return t < -9 || t > 9 ? refused(BAD) : matroid.valueAt(t) + 100000;
    }

    public int within(int i, int j) {
        if (!now.has(i) || j < 0 || j >= MOST_DIMENSIONS) {
            return refused(BAD);
        }
        int all = now.all();
        return matroid.coefficient(all ^ 1 << i, j) - matroid.coefficient(all, j) + 1000;
    }

    public int parts(int i) {
        if (i < NONE) {
            return refused(BAD);
        }
        return i == NONE ? matroid.countRegions() : regions.listed().answer(i);
    }

    public int walls(int part) {
        if (!now.hasAll(part)) {
            return refused(BAD);
        }
        return regions.isRegion(part) ? regions.wallsOf(part) : refused(NO);
    }

    public int way(int from, int to, int what) {
        if (!now.hasAll(from) || !now.hasAll(to) || what < 0 || what > 1) {
            return refused(BAD);
        }
        if (!regions.isRegion(from) || !regions.isRegion(to)) {
            return refused(NO);
        }
        // A shortest gallery crosses just the hyperplanes between both regions, each of them once.
        return what == 0 ? Integer.bitCount(from ^ to) : regions.countGalleries(from, to);
    }

    public int chain(int i, int what) {
        if (i < 0 || what < 0 || what > 1) {
            return refused(BAD);
        }
        if (!modularFlats.hasChain()) {
            return refused(NO);
        }
        int last = matroid.rankOf(now.all());
        if (i == 0) {
            return last;
        }
        if (i > last) {
            return BEYOND;
        }
        return what == 0 ? modularFlats.linkAt(i) : modularFlats.stepAt(i);
    }

    public int even(int k) {
        return k < 0 || k > MOST_DIMENSIONS ? refused(BAD) : modularFlats.countOfRank(k);
    }

    public int places(int p, int what) {
        boolean known = p == 2 || p == 3 || p == 5 || p == 7;
        if (!known || what < 0 || what > 1) {
            return refused(BAD);
        }
        if (what == 0) {
            return fields.countFreePoints(p);
        }
        return fields.isGood(p) ? 1 : 0;
    }

    public int base(int k, int i) {
        if (k < 0 || k > MOST_DIMENSIONS || i < NONE) {
            return refused(BAD);
        }
        return algebra.baseSetsOfSize(k).answer(i);
    }

    public int form(int set, int i) {
        if (!now.hasAll(set) || Integer.bitCount(set) > MOST_DIMENSIONS || i < 0) {
            return refused(BAD);
        }
        Listing baseSets = algebra.baseSetsOfSize(Integer.bitCount(set));
        if (i >= baseSets.count) {
            return refused(NO);
        }
        return algebra.partOf(set, baseSets.sets[i]) + 1000;
    }

    public int type(int c) {
        if (c < 0 || c > 127) {
            return refused(BAD);
        }
        return script.append(c) ? script.length : refused(FULL);
    }

    public int clear() {
        int had = script.length;
        script.length = 0;
        return had;
    }

    public int reads() {
        int flaw = script.parse(now.dimensions);
        if (flaw != NONE) {
            return -10 - flaw;
        }
        before.copyFrom(now);
        for (int k = 0; k < script.commands; k++) {
            int answer = executed(k);
            if (answer < 0) {
                now.copyFrom(before);
                failedError = -answer;
                failedIndex = k;
                return -1000 - k;
            }
        }
        history.keep(before);
        return script.commands;
    }

    public int why(int what) {
        if (what < 0 || what > 1) {
            return refused(BAD);
        }
        return what == 0 ? failedError : failedIndex;
    }

    public int back() {
        return history.restore(now) ? history.count : refused(NO);
    }

    public int told(int what) {
        switch (what) {
            case 0:
                return bads;
            case 1:
                return noes;
            case 2:
                return fulls;
            case 3:
                return script.length;
            case 4:
                return now.dimensions;
            case 5:
                return now.size;
            case 6:
                return matroid.rankOf(now.all());
            case 7:
                return history.count;
            default:
                return refused(BAD);
        }
    }

    public long digest() {
        long h = 2351;
        for (int what = 0; what <= 7; what++) {
            h = mixed(h, told(what));
        }
        h = mixed(mixed(h, why(0)), why(1));
        for (int i = 0; i < now.size; i++) {
            for (int j = 0; j < now.dimensions; j++) {
                h = mixed(h, of(i, j));
            }
        }
        for (int k = 0; k <= MOST_DIMENSIONS; k++) {
            h = mixed(h, flats(k, NONE));
        }
        for (int j = 0; j <= MOST_DIMENSIONS; j++) {
            h = mixed(h, polynomial(now.all(), j));
        }
        h = mixed(mixed(h, rings(NONE)), matroid.countRegions());
        for (int k = 0; k <= MOST_DIMENSIONS; k++) {
            h = mixed(h, algebra.baseSetsOfSize(k).count);
        }
        return h;
    }

    private static long mixed(long h, long v) {
        return 31 * h + v;
    }

    private int refused(int error) {
        if (error == BAD) {
            bads++;
        } else if (error == NO) {
            noes++;
        } else {
            fulls++;
        }
        return error;
    }

    /** Ends a call that may have changed the arrangement: only a change that succeeded is kept. */
    private int settled(int answer) {
        if (answer < 0) {
            return refused(answer);
        }
        history.keep(before);
        return answer;
    }

    private int executed(int command) {
        int first = script.number(command, 0);
        int second = script.number(command, 1);
        switch (script.verb(command)) {
            case 'd':
                return now.restart(first);
            case 'p':
                return now.add(first, second, script.number(command, 2), script.number(command, 3));
            case 't':
                return now.negate(first);
            case 'x':
                return now.remove(first);
            case 's':
                return now.exchange(first, second);
            default:
                return now.fill(first);
        }
    }

    /**
     * The space and its hyperplanes. A change answers a number from 0 on, or an error, and then
     * nothing is different.
     */
    private static final class Arrangement {
        private final int[] coefficients = new int[MOST_PLANES * MOST_DIMENSIONS];
        private int dimensions = 3;
        private int size;
        /** Other at each change, so that what was worked out from the hyperplanes can tell its age. */
        private int version;

        int all() {
            return (1 << size) - 1;
        }

        boolean has(int i) {
            return i >= 0 && i < size;
        }

        boolean hasAll(int set) {
            return set >= 0 && set <= all();
        }

        int at(int i, int j) {
            return coefficients[i * MOST_DIMENSIONS + j];
        }

        void copyFrom(Arrangement other) {
            System.arraycopy(other.coefficients, 0, coefficients, 0, coefficients.length);
            dimensions = other.dimensions;
            size = other.size;
            version++;
        }

        int restart(int n) {
            if (n < 2 || n > MOST_DIMENSIONS) {
                return BAD;
            }
            int previous = dimensions;
            dimensions = n;
            size = 0;
            version++;
            return previous;
        }

        int add(int a, int b, int c, int e) {
            if (!isCoefficient(a) || !isCoefficient(b) || !isCoefficient(c) || !isCoefficient(e)) {
                return BAD;
            }
            if (a == 0 && b == 0 && c == 0 && e == 0) {
                return BAD;
            }
            if (dimensions < 3 && c != 0 || dimensions < 4 && e != 0) {
                return BAD;
            }
            for (int i = 0; i < size; i++) {
                if (isSame(i, a, b, c, e)) {
                    return NO;
                }
            }
            return size >= MOST_PLANES ? FULL : put(a, b, c, e);
        }

        private static boolean isCoefficient(int a) {
            return a >= -MOST_COEFFICIENT && a <= MOST_COEFFICIENT;
        }

        /** Neither row is all 0, so they are multiples of each other if all 2 x 2 minors are 0. */
        private boolean isSame(int i, int a, int b, int c, int e) {
            int p = at(i, 0);
            int q = at(i, 1);
            int r = at(i, 2);
            int s = at(i, 3);
            return p * b == q * a && p * c == r * a && p * e == s * a
                    && q * c == r * b && q * e == s * b && r * e == s * c;
        }

        private int put(int a, int b, int c, int e) {
            int start = size * MOST_DIMENSIONS;
            coefficients[start] = a;
            coefficients[start + 1] = b;
            coefficients[start + 2] = c;
            coefficients[start + 3] = e;
            size++;
            version++;
            return size - 1;
        }

        int negate(int i) {
            if (!has(i)) {
                return BAD;
            }
            for (int j = 0; j < MOST_DIMENSIONS; j++) {
                coefficients[i * MOST_DIMENSIONS + j] = -at(i, j);
            }
            version++;
            return 0;
        }

        int remove(int i) {
            if (!has(i)) {
                return BAD;
            }
            int start = i * MOST_DIMENSIONS;
            int next = start + MOST_DIMENSIONS;
            System.arraycopy(coefficients, next, coefficients, start, size * MOST_DIMENSIONS - next);
            size--;
            version++;
            return size;
        }

        int exchange(int i, int j) {
            if (!has(i) || !has(j) || i == j) {
                return BAD;
            }
            for (int k = 0; k < MOST_DIMENSIONS; k++) {
                int kept = at(i, k);
                coefficients[i * MOST_DIMENSIONS + k] = at(j, k);
                coefficients[j * MOST_DIMENSIONS + k] = kept;
            }
            version++;
            return 0;
        }

        int fill(int kind) {
            if (kind < 0 || kind > 3) {
                return BAD;
            }
            size = 0;
            version++;
            if (kind == 0 || kind == 3) {
                for (int i = 0; i < dimensions; i++) {
                    putPair(i, 1, i, 1);
                }
            }
            if (kind != 0) {
                putPairs(kind >= 2);
            }
            return size;
        }

        private void putPairs(boolean withSums) {
            for (int j = 1; j < dimensions; j++) {
                for (int i = 0; i < j; i++) {
                    putPair(i, 1, j, -1);
                    if (withSums) {
                        putPair(i, 1, j, 1);
                    }
                }
            }
        }

        private void putPair(int i, int atI, int j, int atJ) {
            if (size >= MOST_PLANES) {
                return;
            }
            int start = size * MOST_DIMENSIONS;
            put(0, 0, 0, 0);
            coefficients[start + i] = atI;
            coefficients[start + j] = atJ;
        }
    }

    /** The arrangements before the latest changes, in a ring. */
    private static final class History {
        private final Arrangement[] ring = new Arrangement[MOST_CHANGES];
        private int next;
        private int count;

        History() {
            for (int k = 0; k < MOST_CHANGES; k++) {
                ring[k] = new Arrangement();
            }
        }

        void keep(Arrangement earlier) {
            ring[next].copyFrom(earlier);
            next = (next + 1) % MOST_CHANGES;
            count = Math.min(count + 1, MOST_CHANGES);
        }

        boolean restore(Arrangement target) {
            if (count == 0) {
                return false;
            }
            count--;
            next = (next + MOST_CHANGES - 1) % MOST_CHANGES;
            target.copyFrom(ring[next]);
            return true;
        }
    }

    /** A list of sets, asked for by the index of one of them or for their number. */
    private static final class Listing {
        private final int[] sets;
        private int count;

        Listing(int most) {
            sets = new int[Math.max(most, 0)];
        }

        void append(int set) {
            if (count < sets.length) {
                sets[count] = set;
                count++;
            }
        }

        int answer(int i) {
            if (i == NONE) {
                return count;
            }
            return i >= 0 && i < count ? sets[i] : BEYOND;
        }
    }

    /** Some hyperplanes as the rows of a matrix, made triangular without fractions. */
    private static final class Matrix {
        /** A circuit has up to five rows; beside its coefficients there is room to trace each row. */
        private static final int MOST_ROWS = MOST_DIMENSIONS + 1;
        private static final int ROOM = MOST_DIMENSIONS + MOST_ROWS;

        private final long[] cells = new long[MOST_ROWS * ROOM];
        private int rows;
        private int columns;
        private int width;

        void load(Arrangement plan, int set) {
            rows = 0;
            columns = plan.dimensions;
            width = columns;
            for (int i = 0; i < plan.size && rows < MOST_ROWS; i++) {
                if ((set >> i & 1) != 0) {
                    for (int j = 0; j < columns; j++) {
                        cells[rows * ROOM + j] = plan.at(i, j);
                    }
                    rows++;
                }
            }
        }

        /** Adds columns that will tell of each row which sum of the loaded rows it has become. */
        void trace() {
            width = columns + rows;
            for (int row = 0; row < rows; row++) {
                for (int k = 0; k < rows; k++) {
                    cells[row * ROOM + columns + k] = row == k ? 1 : 0;
                }
            }
        }

        /** Of a traced matrix whose last row has become 0: how often the loaded row k is in it. */
        long traceInLast(int k) {
            return k >= 0 && k < rows ? cells[(rows - 1) * ROOM + columns + k] : 0;
        }

        /**
         * Answers the rank, modulo a prime or, for 0, of the integers. At most four rounds square
         * the greatest number and double it: from 3 to below 2 to the power of 41, which a long holds.
         */
        int reduce(int modulus) {
            takeRemainders(modulus);
            int done = 0;
            for (int column = 0; column < columns && done < rows; column++) {
                if (bringUp(done, column)) {
                    for (int row = done + 1; row < rows; row++) {
                        strike(row, done, column, modulus);
                    }
                    done++;
                }
            }
            return done;
        }

        private void takeRemainders(int modulus) {
            if (modulus <= 0) {
                return;
            }
            for (int k = 0; k < rows * ROOM; k++) {
                cells[k] %= modulus;
            }
        }

        /** Looks for a row that is not 0 in the column, and exchanges it with the one at the place. */
        private boolean bringUp(int place, int column) {
            for (int row = place; row < rows; row++) {
                if (cells[row * ROOM + column] != 0) {
                    for (int j = 0; j < width; j++) {
                        long kept = cells[place * ROOM + j];
                        cells[place * ROOM + j] = cells[row * ROOM + j];
                        cells[row * ROOM + j] = kept;
                    }
                    return true;
                }
            }
            return false;
        }

        private void strike(int row, int by, int column, int modulus) {
            long own = cells[row * ROOM + column];
            long top = cells[by * ROOM + column];
            if (own == 0) {
                return;
            }
            for (int j = 0; j < width; j++) {
                long cell = cells[row * ROOM + j] * top - cells[by * ROOM + j] * own;
                cells[row * ROOM + j] = modulus > 0 ? cell % modulus : cell;
            }
        }
    }

    /** Ranks, flats, circuits and characteristic polynomials. */
    private static final class Matroid {
        private final Arrangement plan;
        private final Matrix matrix = new Matrix();
        private final int[] ranks = new int[SETS];
        private final boolean[] flat = new boolean[SETS];
        private final Listing circuits = new Listing(MOST_APART);
        private final Listing picked = new Listing(MOST_APART);
        private final int[] factors = new int[MOST_PLANES];
        private int seen = NONE;

        Matroid(Arrangement plan) {
            this.plan = plan;
        }

        void refresh() {
            if (seen == plan.version) {
                return;
            }
            seen = plan.version;
            int all = plan.all();
            for (int set = 0; set <= all; set++) {
                ranks[set] = rankFromSubsets(set);
            }
            for (int set = 0; set <= all; set++) {
                flat[set] = closureFromRanks(set) == set;
            }
            circuits.count = 0;
            for (int size = 1; size <= plan.dimensions + 1; size++) {
                for (int set = 0; set <= all; set++) {
                    if (Integer.bitCount(set) == size && isCircuit(set, size)) {
                        circuits.append(set);
                    }
                }
            }
        }

        /** Only a set whose proper subsets are all independent can have a rank above all of theirs. */
        private int rankFromSubsets(int set) {
            int size = Integer.bitCount(set);
            int best = 0;
            boolean open = size <= plan.dimensions;
            for (int i = 0; i < plan.size; i++) {
                if ((set >> i & 1) != 0) {
                    int below = ranks[set ^ 1 << i];
                    best = Math.max(best, below);
                    open = open && below == size - 1;
                }
            }
            if (!open) {
                return best;
            }
            matrix.load(plan, set);
            return matrix.reduce(0);
        }

        private int closureFromRanks(int set) {
            int closure = set;
            for (int i = 0; i < plan.size; i++) {
                if (ranks[set | 1 << i] == ranks[set]) {
                    closure |= 1 << i;
                }
            }
            return closure;
        }

        private boolean isCircuit(int set, int size) {
            if (ranks[set] == size) {
                return false;
            }
            for (int i = 0; i < plan.size; i++) {
                if ((set >> i & 1) != 0 && ranks[set ^ 1 << i] != size - 1) {
                    return false;
                }
            }
            return true;
        }

        int rankOf(int set) {
            refresh();
            return ranks[set];
        }

        int closureOf(int set) {
            refresh();
            return closureFromRanks(set);
        }

        boolean isFlat(int set) {
            refresh();
            return flat[set];
        }

        boolean isIndependent(int set) {
            refresh();
            return ranks[set] == Integer.bitCount(set);
        }

        Listing flatsOfRank(int k) {
            refresh();
            picked.count = 0;
            for (int set = 0; set <= plan.all(); set++) {
                if (flat[set] && ranks[set] == k) {
                    picked.append(set);
                }
            }
            return picked;
        }

        Listing circuits() {
            refresh();
            return circuits;
        }

        /** Answers a row with the factor of each hyperplane, 0 for those that are not in the circuit. */
        int[] factorsOf(int circuit) {
            matrix.load(plan, circuit);
            matrix.trace();
            matrix.reduce(0);
            long divisor = 0;
            for (int k = 0; k < Integer.bitCount(circuit); k++) {
                divisor = commonDivisor(divisor, matrix.traceInLast(k));
            }
            if (matrix.traceInLast(0) < 0) {
                divisor = -divisor;
            }
            Arrays.fill(factors, 0);
            int k = 0;
            for (int i = 0; i < plan.size; i++) {
                if ((circuit >> i & 1) != 0 && divisor != 0) {
                    factors[i] = (int) (matrix.traceInLast(k) / divisor);
                    k++;
                }
            }
            return factors;
        }

        private static long commonDivisor(long first, long second) {
            long a = Math.abs(first);
            long b = Math.abs(second);
            // Euclid's way takes at most some ninety rounds for any long.
            for (int round = 0; round < 100 && b != 0; round++) {
                long rest = a % b;
                a = b;
                b = rest;
            }
            return a;
        }

        int coefficient(int set, int power) {
            refresh();
            return coefficientFromRanks(set, power);
        }

        private int coefficientFromRanks(int set, int power) {
            int rank = plan.dimensions - power;
            int sum = 0;
            for (int part = 0; part <= set; part++) {
                if ((part & ~set) == 0 && ranks[part] == rank) {
                    sum += (Integer.bitCount(part) & 1) == 0 ? 1 : -1;
                }
            }
            return sum;
        }

        /** By Whitney's theorem the last coefficient of a flat's own polynomial is its Moebius value. */
        int moebius(int flatSet) {
            refresh();
            return coefficientFromRanks(flatSet, plan.dimensions - ranks[flatSet]);
        }

        int valueAt(int t) {
            refresh();
            int sum = 0;
            for (int power = MOST_DIMENSIONS; power >= 0; power--) {
                sum = sum * t + coefficientFromRanks(plan.all(), power);
            }
            return sum;
        }

        /** By Zaslavsky's theorem; far cheaper than listing them. */
        int countRegions() {
            return Math.abs(valueAt(-1));
        }
    }

    /** The regions and the galleries between them. */
    private static final class Regions {
        private final Arrangement plan;
        private final Matroid matroid;
        private final boolean[] real = new boolean[SETS];
        private final int[] galleries = new int[SETS];
        private final Listing listing = new Listing(MOST_REGIONS);
        private int seen = NONE;

        Regions(Arrangement plan, Matroid matroid) {
            this.plan = plan;
            this.matroid = matroid;
        }

        /**
         * By Gordan's theorem a choice of sides has no point just if some circuit's factors, or their
         * negatives, have the signs of this choice: then a sum of positive numbers would be 0.
         */
        private void refresh() {
            if (seen == plan.version) {
                return;
            }
            seen = plan.version;
            for (int set = 0; set <= plan.all(); set++) {
                real[set] = true;
            }
            matroid.refresh();
            Listing circuits = matroid.circuits;
            for (int k = 0; k < circuits.count; k++) {
                int circuit = circuits.sets[k];
                int positive = positivePart(circuit);
                strike(circuit, positive);
                strike(circuit, circuit ^ positive);
            }
            listing.count = 0;
            for (int set = 0; set <= plan.all(); set++) {
                if (real[set]) {
                    listing.append(set);
                }
            }
        }

        private int positivePart(int circuit) {
            int[] factors = matroid.factorsOf(circuit);
            int positive = 0;
            for (int i = 0; i < plan.size; i++) {
                if (factors[i] > 0) {
                    positive |= 1 << i;
                }
            }
            return positive;
        }

        /** Strikes out every set that agrees with the given sides on the circuit. */
        private void strike(int circuit, int sides) {
            int others = plan.all() & ~circuit;
            int many = 1 << Integer.bitCount(others);
            int part = 0;
            for (int k = 0; k < many; k++) {
                real[sides | part] = false;
                part = part - others & others;
            }
        }

        Listing listed() {
            refresh();
            return listing;
        }

        boolean isRegion(int set) {
            refresh();
            return real[set];
        }

        int wallsOf(int region) {
            refresh();
            int walls = 0;
            for (int i = 0; i < plan.size; i++) {
                if (real[region ^ 1 << i]) {
                    walls |= 1 << i;
                }
            }
            return walls;
        }

        int countGalleries(int from, int to) {
            refresh();
            int between = from ^ to;
            galleries[0] = 1;
            for (int crossed = 1; crossed <= between; crossed++) {
                if ((crossed & ~between) == 0) {
                    galleries[crossed] = real[from ^ crossed] ? sumOfEarlier(crossed) : 0;
                }
            }
            return galleries[between];
        }

        private int sumOfEarlier(int crossed) {
            int sum = 0;
            for (int i = 0; i < plan.size; i++) {
                if ((crossed >> i & 1) != 0) {
                    sum += galleries[crossed ^ 1 << i];
                }
            }
            return sum;
        }
    }

    /** Modular flats and the first modular chain. */
    private static final class ModularFlats {
        private final Arrangement plan;
        private final Matroid matroid;
        private final boolean[] modular = new boolean[SETS];
        /** Whether modular flats lead from a flat up to all hyperplanes, one for each rank. */
        private final boolean[] leads = new boolean[SETS];
        private final int[] links = new int[MOST_DIMENSIONS + 1];
        private int seen = NONE;

        ModularFlats(Arrangement plan, Matroid matroid) {
            this.plan = plan;
            this.matroid = matroid;
        }

        private void refresh() {
            if (seen == plan.version) {
                return;
            }
            seen = plan.version;
            matroid.refresh();
            int all = plan.all();
            // Downwards, as each flat asks those that contain it, which are greater numbers.
            for (int set = all; set >= 0; set--) {
                modular[set] = matroid.flat[set] && isModular(set);
                leads[set] = modular[set] && (set == all || nextAbove(set) != NONE);
            }
            links[0] = 0;
            for (int k = 1; k <= matroid.ranks[all] && leads[links[k - 1]]; k++) {
                links[k] = Math.max(0, nextAbove(links[k - 1]));
            }
        }

        private boolean isModular(int flat) {
            int[] ranks = matroid.ranks;
            for (int other = 0; other <= plan.all(); other++) {
                if (matroid.flat[other]
                        && ranks[flat] + ranks[other] != ranks[flat | other] + ranks[flat & other]) {
                    return false;
                }
            }
            return true;
        }

        private int nextAbove(int flat) {
            for (int set = flat + 1; set <= plan.all(); set++) {
                if (leads[set] && (flat & ~set) == 0 && matroid.ranks[set] == matroid.ranks[flat] + 1) {
                    return set;
                }
            }
            return NONE;
        }

        boolean hasChain() {
            refresh();
            return leads[0];
        }

        int linkAt(int i) {
            refresh();
            return links[i];
        }

        int stepAt(int i) {
            refresh();
            return Integer.bitCount(links[i]) - Integer.bitCount(links[i - 1]);
        }

        int countOfRank(int k) {
            refresh();
            int count = 0;
            for (int set = 0; set <= plan.all(); set++) {
                if (modular[set] && matroid.ranks[set] == k) {
                    count++;
                }
            }
            return count;
        }
    }

    /** Points and independence modulo a prime. */
    private static final class FiniteFields {
        private final Arrangement plan;
        private final Matroid matroid;
        private final Matrix matrix = new Matrix();
        private final int[] point = new int[MOST_DIMENSIONS];

        FiniteFields(Arrangement plan, Matroid matroid) {
            this.plan = plan;
            this.matroid = matroid;
        }

        /**
         * The multiples of a point are on the same hyperplanes, so that one of them, whose last
         * coordinate that is not 0 is 1, stands for p - 1 points. The origin is on every hyperplane.
         */
        int countFreePoints(int p) {
            int count = plan.size == 0 ? 1 : 0;
            int start = 1;
            for (int last = 0; last < plan.dimensions; last++) {
                for (int number = start; number < 2 * start; number++) {
                    setPoint(number, p);
                    if (isFree(p)) {
                        count += p - 1;
                    }
                }
                start *= p;
            }
            return count;
        }

        private void setPoint(int number, int p) {
            int rest = number;
            for (int j = 0; j < MOST_DIMENSIONS && p > 0; j++) {
                point[j] = rest % p;
                rest /= p;
            }
        }

        private boolean isFree(int p) {
            for (int i = 0; i < plan.size; i++) {
                int sum = 0;
                for (int j = 0; j < plan.dimensions; j++) {
                    sum += plan.at(i, j) * point[j];
                }
                if (p > 0 && sum % p == 0) {
                    return false;
                }
            }
            return true;
        }

        /** It is enough to look at the greatest independent sets, as the others are their subsets. */
        boolean isGood(int p) {
            int all = plan.all();
            int most = matroid.rankOf(all);
            for (int set = 0; set <= all; set++) {
                if (Integer.bitCount(set) == most && matroid.isIndependent(set)) {
                    matrix.load(plan, set);
                    if (matrix.reduce(p) < most) {
                        return false;
                    }
                }
            }
            return true;
        }
    }

    /** The base sets of the Orlik-Solomon algebra, and its elements as sums of theirs. */
    private static final class Algebra {
        private final Arrangement plan;
        private final Matroid matroid;
        /** For each set a circuit whose broken circuit is in it; 0 if there is none. */
        private final int[] broken = new int[SETS];
        private final int[] sum = new int[SETS];
        private final Listing picked = new Listing(MOST_APART);
        private int seen = NONE;

        Algebra(Arrangement plan, Matroid matroid) {
            this.plan = plan;
            this.matroid = matroid;
        }

        private void refresh() {
            if (seen == plan.version) {
                return;
            }
            seen = plan.version;
            Arrays.fill(broken, 0);
            matroid.refresh();
            Listing circuits = matroid.circuits;
            for (int k = 0; k < circuits.count; k++) {
                int circuit = circuits.sets[k];
                broken[circuit & circuit - 1] = circuit;
            }
            for (int set = 0; set <= plan.all(); set++) {
                for (int i = 0; i < plan.size && broken[set] == 0; i++) {
                    if ((set >> i & 1) != 0) {
                        broken[set] = broken[set ^ 1 << i];
                    }
                }
            }
        }

        Listing baseSetsOfSize(int k) {
            refresh();
            picked.count = 0;
            for (int set = 0; set <= plan.all(); set++) {
                if (Integer.bitCount(set) == k && broken[set] == 0 && matroid.isIndependent(set)) {
                    picked.append(set);
                }
            }
            return picked;
        }

        /** Downwards, as an element is replaced by those of sets that are smaller numbers. */
        int partOf(int set, int baseSet) {
            refresh();
            Arrays.fill(sum, 0);
            sum[set] = 1;
            for (int term = set; term > baseSet; term--) {
                if (sum[term] != 0 && broken[term] != 0 && matroid.isIndependent(term)) {
                    replace(term, broken[term]);
                }
            }
            return matroid.isIndependent(set) ? sum[baseSet] : 0;
        }

        /**
         * The circuit's relation says that an element with its broken circuit is the sum of those in
         * which the circuit's lowest hyperplane stands in the place of one of the others. From there
         * it moves down to its own place, past the hyperplanes between both.
         */
        private void replace(int term, int circuit) {
            int lowest = circuit & -circuit;
            int others = circuit ^ lowest;
            for (int i = 0; i < plan.size; i++) {
                int bit = 1 << i;
                if ((others & bit) != 0) {
                    int passed = term & bit - 1 & -lowest;
                    int factor = (Integer.bitCount(passed) & 1) == 0 ? 1 : -1;
                    sum[term ^ bit | lowest] += factor * sum[term];
                }
            }
        }
    }

    /** The text and the commands that it was read as. */
    private static final class Script {
        private static final int MOST_NUMBERS = 4;
        /** The shortest commands have three bytes; one more may begin after them without its end. */
        private static final int MOST_COMMANDS = MOST_BYTES / 3 + 1;

        private final byte[] bytes = new byte[MOST_BYTES];
        private final int[] verbs = new int[MOST_COMMANDS];
        private final int[] numbers = new int[MOST_COMMANDS * MOST_NUMBERS];
        private int length;
        private int commands;
        private int cursor;

        boolean append(int c) {
            if (length >= MOST_BYTES) {
                return false;
            }
            bytes[length] = (byte) c;
            length++;
            return true;
        }

        int verb(int command) {
            return verbs[command];
        }

        int number(int command, int k) {
            return numbers[command * MOST_NUMBERS + k];
        }

        /** Answers the error position, or NONE. The cursor always stands at the byte in question. */
        int parse(int dimensionsAtFirst) {
            int dimensions = dimensionsAtFirst;
            commands = 0;
            cursor = 0;
            skipSpaces();
            for (int k = 0; k < MOST_COMMANDS; k++) {
                if (k > 0 && cursor >= length) {
                    return NONE;
                }
                if (!readCommand(dimensions)) {
                    return cursor;
                }
                if (verbs[k] == 'd') {
                    dimensions = number(k, 0);
                }
                skipSpaces();
            }
            return cursor;
        }

        private boolean readCommand(int dimensions) {
            if (cursor >= length || commands >= MOST_COMMANDS) {
                return false;
            }
            int verb = bytes[cursor];
            int many = countNumbers(verb, dimensions);
            if (many == 0) {
                return false;
            }
            cursor++;
            verbs[commands] = verb;
            for (int k = 0; k < MOST_NUMBERS; k++) {
                numbers[commands * MOST_NUMBERS + k] = 0;
            }
            for (int k = 0; k < many; k++) {
                if (!readNumber(verb, commands * MOST_NUMBERS + k)) {
                    return false;
                }
            }
            skipSpaces();
            if (!isBetween(';', ';')) {
                return false;
            }
            cursor++;
            commands++;
            return true;
        }

        private static int countNumbers(int verb, int dimensions) {
            switch (verb) {
                case 'd':
                case 't':
                case 'x':
                case 'm':
                    return 1;
                case 's':
                    return 2;
                case 'p':
                    return dimensions;
                default:
                    return 0;
            }
        }

        private boolean readNumber(int verb, int place) {
            skipSpaces();
            boolean minus = verb == 'p' && isBetween('-', '-');
            int least = '0';
            int most = '9';
            if (minus) {
                cursor++;
                least = '1';
            } else if (verb == 'd') {
                least = '2';
                most = '4';
            }
            if (!isBetween(least, most)) {
                return false;
            }
            int digit = bytes[cursor] - '0';
            numbers[place] = minus ? -digit : digit;
            cursor++;
            return true;
        }

        private boolean isBetween(int least, int most) {
            return cursor < length && bytes[cursor] >= least && bytes[cursor] <= most;
        }

        private void skipSpaces() {
            for (int k = 0; k < MOST_BYTES && isBetween(' ', ' '); k++) {
                cursor++;
            }
        }
    }
}
