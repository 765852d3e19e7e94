import java.util.ArrayList;
import java.util.List;
import java.util.Random;

/**
 * Theorems that tie the answers of different methods together, on many arrangements. They do not rest
 * on how a sentence of the document was read when the program and the plain model were written.
 */
public final class LawsTest extends Bench {
    private static final Due DUE = new Due("LawsTest");
    private static final long PRIME = 1_000_000_007L;
    private static final Random NUMBERS = new Random(2351);

    private final int dimensions;
    private final int[][] planes;
    private final int all;
    private final String name;

    private LawsTest(int run, int dimensions, int[][] planes) {
        this.dimensions = dimensions;
        this.planes = planes;
        this.all = (1 << planes.length) - 1;
        this.name = "run " + run + ": ";
    }

    public static void main(String[] args) {
        for (int run = 0; run < 240; run++) {
            int dimensions = 2 + run % 3;
            // Small coefficients make many dependent sets, great ones few.
            LawsTest laws = new LawsTest(run, dimensions, somePlanes(dimensions, run % 10, 1 + run / 3 % 3));
            laws.circuitsAreRelations();
            laws.flatsGiveThePolynomial();
            laws.baseSetsGiveThePolynomial();
            laws.goodPrimesCountByThePolynomial();
            laws.chainsGiveTheRoots();
            laws.restrictionsCountTheRegionsThatAreCut();
            laws.galleriesRunBothWays();
            laws.elementsAreDifferentialForms();
        }
        DUE.end();
    }

    private static int[][] somePlanes(int dimensions, int many, int reach) {
        PlaneCuts x = new PlaneCuts();
        x.space(dimensions);
        List<int[]> found = new ArrayList<>();
        // In the plane there are only four lines with coefficients up to 1: so many tries must do.
        for (int k = 0; k < 60 && found.size() < many; k++) {
            int[] row = new int[4];
            for (int j = 0; j < dimensions; j++) {
                row[j] = NUMBERS.nextInt(2 * reach + 1) - reach;
            }
            if (x.plane(row[0], row[1], row[2], row[3]) >= 0) {
                found.add(row);
            }
        }
        return found.toArray(new int[0][]);
    }

    /** A new object for each law, so that none is asked for more than 512 calls. */
    private PlaneCuts arrangement() {
        int[] rows = new int[4 * planes.length];
        for (int k = 0; k < rows.length; k++) {
            rows[k] = planes[k / 4][k % 4];
        }
        return with(dimensions, rows);
    }

    private void circuitsAreRelations() {
        PlaneCuts x = arrangement();
        int many = x.rings(NONE);
        for (int i = 0; i < many; i += 1 + many / 20) {
            long[] sum = new long[4];
            for (int plane = 0; plane < planes.length; plane++) {
                for (int j = 0; j < 4; j++) {
                    sum[j] += (x.factor(i, plane) - 10000) * planes[plane][j];
                }
            }
            DUE.holds(name + "the factors of circuit " + i, sum[0] == 0 && sum[1] == 0 && sum[2] == 0 && sum[3] == 0);
        }
    }

    /** The Moebius values of the flats of rank k sum to the coefficient of t to the power of D - k. */
    private void flatsGiveThePolynomial() {
        PlaneCuts x = arrangement();
        for (int k = 0; k <= dimensions; k++) {
            int sum = 0;
            int many = x.flats(k, NONE);
            for (int i = 0; i < many; i++) {
                sum += x.sign(x.flats(k, i)) - 1000;
            }
            DUE.is(name + "flats of rank " + k, sum, x.polynomial(all, dimensions - k) - 1000);
        }
    }

    /** There are as many base sets of size k as that coefficient tells, and as many in all as regions. */
    private void baseSetsGiveThePolynomial() {
        PlaneCuts x = arrangement();
        int sum = 0;
        for (int k = 0; k <= dimensions; k++) {
            DUE.is(name + "base sets of size " + k, x.base(k, NONE), Math.abs(x.polynomial(all, dimensions - k) - 1000));
            sum += x.base(k, NONE);
        }
        int regions = x.parts(NONE);
        DUE.is(name + "base sets and regions", sum, regions);
        DUE.is(name + "the value at -1", Math.abs(x.value(-1) - 100000), regions);
        DUE.holds(name + "the last region", x.parts(regions - 1) >= 0 && x.parts(regions) == BEYOND);
    }

    private void goodPrimesCountByThePolynomial() {
        PlaneCuts x = arrangement();
        for (int p : new int[] {2, 3, 5, 7}) {
            if (x.places(p, 1) == 1) {
                DUE.is(name + "points modulo " + p, x.places(p, 0), x.value(p) - 100000);
            }
        }
    }

    private void chainsGiveTheRoots() {
        PlaneCuts x = arrangement();
        int many = x.chain(0, 0);
        for (int t = -9; t <= 9 && many >= 0; t++) {
            int product = 1;
            for (int i = 1; i <= dimensions; i++) {
                product *= i <= many ? t - x.chain(i, 1) : t;
            }
            DUE.is(name + "the product of the roots' factors at " + t, product, x.value(t) - 100000);
        }
    }

    private void restrictionsCountTheRegionsThatAreCut() {
        for (int plane = 0; plane < planes.length; plane++) {
            PlaneCuts x = arrangement();
            int cut = 0;
            for (int j = 0; j <= 3; j++) {
                cut += (x.within(plane, j) - 1000) * (j % 2 == 0 ? 1 : -1);
            }
            int before = x.parts(NONE);
            x.drops(plane);
            DUE.is(name + "regions that hyperplane " + plane + " cuts", before - x.parts(NONE), Math.abs(cut));
        }
    }

    private void galleriesRunBothWays() {
        PlaneCuts x = arrangement();
        int many = x.parts(NONE);
        for (int k = 0; k < 8; k++) {
            int from = x.parts(NUMBERS.nextInt(many));
            int to = x.parts(NUMBERS.nextInt(many));
            String way = name + "from " + from + " to " + to;
            DUE.is(way + ": the length", x.way(from, to, 0), Integer.bitCount(from ^ to));
            DUE.is(way + ": backwards", x.way(from, to, 1), x.way(to, from, 1));
            DUE.is(way + ": on the other side", x.way(from, to, 1), x.way(all ^ from, all ^ to, 1));
            DUE.is(way + ": walls on the other side", x.walls(from), x.walls(all ^ from));
        }
    }

    /**
     * The element of a sequence can be taken as the product of its hyperplanes' logarithmic
     * differentials. At a point, modulo a great prime, that is all minors of the coefficients over the
     * product of the forms; so the sum over the base sets must give the minors again.
     */
    private void elementsAreDifferentialForms() {
        long[] forms = formsAtSomePoint();
        for (int k = 0; k <= Math.min(4, planes.length); k++) {
            PlaneCuts x = arrangement();
            int many = x.base(k, NONE);
            int[] base = new int[many];
            for (int i = 0; i < many; i++) {
                base[i] = x.base(k, i);
            }
            for (int round = 0; round < 2 && many > 0; round++) {
                elementIsItsSum(x, someSet(k), base, forms);
            }
        }
    }

    private void elementIsItsSum(PlaneCuts x, int set, int[] base, long[] forms) {
        int[] factors = new int[base.length];
        for (int i = 0; i < base.length; i++) {
            factors[i] = x.form(set, i) - 1000;
        }
        for (int columns = 0; columns < 1 << dimensions; columns++) {
            if (Integer.bitCount(columns) == Integer.bitCount(set)) {
                long sum = 0;
                for (int i = 0; i < base.length; i++) {
                    sum = Math.floorMod(sum + factors[i] * differential(base[i], columns, forms), PRIME);
                }
                DUE.is(name + "the element of " + set, sum, differential(set, columns, forms));
            }
        }
    }

    private int someSet(int size) {
        int set = 0;
        while (Integer.bitCount(set) < size) {
            set |= 1 << NUMBERS.nextInt(planes.length);
        }
        return set;
    }

    private long[] formsAtSomePoint() {
        long[] point = new long[4];
        for (int j = 0; j < 4; j++) {
            point[j] = 1 + NUMBERS.nextInt(900_000_000);
        }
        long[] forms = new long[planes.length];
        for (int i = 0; i < forms.length; i++) {
            for (int j = 0; j < dimensions; j++) {
                forms[i] += planes[i][j] * point[j];
            }
            forms[i] = Math.floorMod(forms[i], PRIME);
            if (forms[i] == 0) {
                throw new IllegalStateException("a test cannot begin: the point is on a hyperplane");
            }
        }
        return forms;
    }

    private long differential(int set, int columns, long[] forms) {
        long value = Math.floorMod(minor(set, columns), PRIME);
        for (int i = 0; i < planes.length; i++) {
            if ((set >> i & 1) != 0) {
                value = value * inverse(forms[i]) % PRIME;
            }
        }
        return value;
    }

    /** By the first row of the set. */
    private long minor(int set, int columns) {
        if (set == 0) {
            return 1;
        }
        int row = Integer.numberOfTrailingZeros(set);
        long sum = 0;
        int sign = 1;
        for (int j = 0; j < dimensions; j++) {
            if ((columns >> j & 1) != 0) {
                sum += sign * planes[row][j] * minor(set & set - 1, columns ^ 1 << j);
                sign = -sign;
            }
        }
        return sum;
    }

    private static long inverse(long number) {
        long power = 1;
        long square = number;
        for (long rest = PRIME - 2; rest > 0; rest /= 2) {
            if (rest % 2 == 1) {
                power = power * square % PRIME;
            }
            square = square * square % PRIME;
        }
        return power;
    }
}
