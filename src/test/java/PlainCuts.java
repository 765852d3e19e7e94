import java.util.ArrayList;
import java.util.HashMap;
import java.util.HashSet;
import java.util.List;
import java.util.Map;
import java.util.TreeSet;

/**
 * The document once more, by its definitions and by other ways than the program's where there are
 * any, so that both can be compared: ranks by minors, regions by elimination of coordinates,
 * galleries by breadth, the algebra by solving all its relations. It is slow and makes many objects.
 */
final class PlainCuts {
    static final int BAD = -2, NO = -3, FULL = -4;
    private static final long PRIME = 1_000_000_007L;

    private int dims = 3;
    private List<int[]> planes = new ArrayList<>();
    private String text = "";
    private final int[] errors = new int[3];
    private int whyError = 0, whyIndex = -1;
    private final List<Object[]> undo = new ArrayList<>();
    private Facts facts = null;

    /** What follows from the hyperplanes, worked out when asked for. */
    private static final class Facts {
        int[] rank;
        List<Integer> circuits;
        TreeSet<Integer> regions;
        List<Integer> modular;
        final Map<Integer, Map<Integer, Map<Integer, Long>>> forms = new HashMap<>();
    }

    // ---- errors and changes

    private int error(int code) {
        errors[-2 - code]++;
        return code;
    }

    private Object[] state() {
        List<int[]> copy = new ArrayList<>();
        for (int[] plane : planes) {
            copy.add(plane.clone());
        }
        return new Object[] {dims, copy};
    }

    @SuppressWarnings("unchecked")
    private void restore(Object[] state) {
        dims = (Integer) state[0];
        planes = (List<int[]>) state[1];
        facts = null;
    }

    private void remember(Object[] state) {
        undo.add(state);
        if (undo.size() > 6) {
            undo.remove(0);
        }
        facts = null;
    }

    private int change(char verb, int... n) {
        Object[] earlier = state();
        int code = perform(verb, n);
        if (code < 0) {
            return error(code);
        }
        remember(earlier);
        return code;
    }

    private int perform(char verb, int... n) {
        facts = null;
        switch (verb) {
            case 'd': {
                if (n[0] < 2 || n[0] > 4) return BAD;
                int previous = dims;
                dims = n[0];
                planes.clear();
                return previous;
            }
            case 'p': return add(n.clone());
            case 't': {
                if (!isPlane(n[0])) return BAD;
                int[] plane = planes.get(n[0]);
                for (int j = 0; j < 4; j++) plane[j] = -plane[j];
                return 0;
            }
            case 'x': {
                if (!isPlane(n[0])) return BAD;
                planes.remove(n[0]);
                return planes.size();
            }
            case 's': {
                if (!isPlane(n[0]) || !isPlane(n[1]) || n[0] == n[1]) return BAD;
                int[] first = planes.get(n[0]);
                planes.set(n[0], planes.get(n[1]));
                planes.set(n[1], first);
                return 0;
            }
            default: return make(n[0]);
        }
    }

    private int add(int[] plane) {
        boolean zero = true;
        for (int j = 0; j < 4; j++) {
            if (plane[j] < -3 || plane[j] > 3 || j >= dims && plane[j] != 0) return BAD;
            zero &= plane[j] == 0;
        }
        if (zero) return BAD;
        for (int[] other : planes) {
            for (int a = -3; a <= 3; a++) {
                for (int b = 1; b <= 3; b++) {
                    boolean same = a != 0;
                    for (int j = 0; j < 4; j++) same &= plane[j] * b == other[j] * a;
                    if (same) return NO;
                }
            }
        }
        if (planes.size() == 9) return FULL;
        planes.add(plane);
        return planes.size() - 1;
    }

    private int make(int kind) {
        if (kind < 0 || kind > 3) return BAD;
        List<int[]> made = new ArrayList<>();
        for (int i = 0; i < dims && (kind == 0 || kind == 3); i++) {
            int[] plane = new int[4];
            plane[i] = 1;
            made.add(plane);
        }
        for (int j = 0; j < dims && kind != 0; j++) {
            for (int i = 0; i < j; i++) {
                for (int sign = -1; sign <= (kind == 1 ? -1 : 1); sign += 2) {
                    int[] plane = new int[4];
                    plane[i] = 1;
                    plane[j] = sign;
                    made.add(plane);
                }
            }
        }
        planes = new ArrayList<>(made.subList(0, Math.min(9, made.size())));
        return planes.size();
    }

    private boolean isPlane(int i) {
        return i >= 0 && i < planes.size();
    }

    private boolean isSet(int set) {
        return set >= 0 && set < 1 << planes.size();
    }

    private int all() {
        return (1 << planes.size()) - 1;
    }

    // ---- ranks by minors

    private Facts facts() {
        if (facts == null) {
            facts = new Facts();
            facts.rank = ranks(0);
        }
        return facts;
    }

    private int[] ranks(int prime) {
        int[] rank = new int[all() + 1];
        for (int set = 0; set <= all(); set++) {
            if (Integer.bitCount(set) <= dims && hasMinor(set, prime)) {
                for (int more = set; more <= all(); more++) {
                    if ((more & set) == set) rank[more] = Math.max(rank[more], Integer.bitCount(set));
                }
            }
        }
        return rank;
    }

    private boolean hasMinor(int set, int prime) {
        int size = Integer.bitCount(set);
        for (int columns = 0; columns < 1 << dims; columns++) {
            if (Integer.bitCount(columns) == size) {
                long minor = minor(set, columns);
                if (prime == 0 ? minor != 0 : minor % prime != 0) return true;
            }
        }
        return false;
    }

    /** By the first row of the set. */
    private long minor(int set, int columns) {
        if (set == 0) return 1;
        int row = Integer.numberOfTrailingZeros(set);
        long sum = 0;
        int sign = 1;
        for (int j = 0; j < dims; j++) {
            if ((columns >> j & 1) != 0) {
                sum += (long) sign * planes.get(row)[j] * minor(set & set - 1, columns ^ 1 << j);
                sign = -sign;
            }
        }
        return sum;
    }

    private int rankOf(int set) {
        return facts().rank[set];
    }

    private boolean free(int set) {
        return rankOf(set) == Integer.bitCount(set);
    }

    private int closure(int set) {
        int closure = 0;
        for (int i = 0; i < planes.size(); i++) {
            if (rankOf(set | 1 << i) == rankOf(set)) closure |= 1 << i;
        }
        return closure;
    }

    private boolean isFlat(int set) {
        return closure(set) == set;
    }

    private List<Integer> flatsOf(int k) {
        List<Integer> list = new ArrayList<>();
        for (int set = 0; set <= all(); set++) {
            if (isFlat(set) && (k < 0 || rankOf(set) == k)) list.add(set);
        }
        return list;
    }

    private int moebius(int flat, Map<Integer, Integer> known) {
        if (flat == 0) return 1;
        if (known.containsKey(flat)) return known.get(flat);
        int sum = 0;
        for (int other : flatsOf(-1)) {
            if (other != flat && (other & flat) == other) sum -= moebius(other, known);
        }
        known.put(flat, sum);
        return sum;
    }

    private List<Integer> circuits() {
        if (facts().circuits == null) {
            List<Integer> list = new ArrayList<>();
            for (int size = 1; size <= 9; size++) {
                for (int set = 0; set <= all(); set++) {
                    if (Integer.bitCount(set) == size && !free(set) && properSubsetsFree(set)) list.add(set);
                }
            }
            facts().circuits = list;
        }
        return facts().circuits;
    }

    private boolean properSubsetsFree(int set) {
        for (int part = 0; part < set; part++) {
            if ((part & set) == part && !free(part)) return false;
        }
        return true;
    }

    /** By Cramer's rule from the minors of columns in which the circuit without one has full rank. */
    private long[] factors(int circuit) {
        long[] factors = new long[9];
        int lowest = Integer.numberOfTrailingZeros(circuit);
        for (int columns = 0; columns < 1 << dims; columns++) {
            if (Integer.bitCount(columns) != Integer.bitCount(circuit) - 1) continue;
            if (minor(circuit ^ 1 << lowest, columns) == 0) continue;
            long divisor = 0;
            int sign = 1;
            for (int i = 0; i < 9; i++) {
                if ((circuit >> i & 1) != 0) {
                    factors[i] = sign * minor(circuit ^ 1 << i, columns);
                    divisor = gcd(Math.abs(factors[i]), divisor);
                    sign = -sign;
                }
            }
            if (factors[lowest] < 0) divisor = -divisor;
            for (int i = 0; i < 9; i++) factors[i] /= divisor;
            return factors;
        }
        throw new IllegalStateException("no factors");
    }

    private static long gcd(long a, long b) {
        return b == 0 ? a : gcd(b, a % b);
    }

    private int coefficient(int set, int j) {
        int sum = 0;
        for (int part = 0; part <= all(); part++) {
            if ((part & set) == part && rankOf(part) == dims - j) {
                sum += Integer.bitCount(part) % 2 == 0 ? 1 : -1;
            }
        }
        return sum;
    }

    // ---- regions by elimination of coordinates

    private TreeSet<Integer> regions() {
        if (facts().regions == null) {
            TreeSet<Integer> found = new TreeSet<>();
            for (int set = 0; set <= all(); set++) {
                if (hasPoint(set)) found.add(set);
            }
            facts().regions = found;
        }
        return facts().regions;
    }

    /** Whether there is a point with a positive value of each form, those outside of the set negated. */
    private boolean hasPoint(int set) {
        HashSet<List<Long>> rows = new HashSet<>();
        for (int i = 0; i < planes.size(); i++) {
            List<Long> row = new ArrayList<>();
            for (int j = 0; j < dims; j++) row.add((long) ((set >> i & 1) != 0 ? 1 : -1) * planes.get(i)[j]);
            rows.add(row);
        }
        for (int j = 0; j < dims; j++) {
            HashSet<List<Long>> next = new HashSet<>();
            for (List<Long> up : rows) {
                if (up.get(j) == 0) next.add(up);
                if (up.get(j) <= 0) continue;
                for (List<Long> down : rows) {
                    if (down.get(j) < 0) next.add(joined(up, -down.get(j), down, up.get(j)));
                }
            }
            rows = next;
        }
        return rows.isEmpty();
    }

    private static List<Long> joined(List<Long> first, long a, List<Long> second, long b) {
        List<Long> sum = new ArrayList<>();
        long divisor = 0;
        for (int j = 0; j < first.size(); j++) {
            long cell = a * first.get(j) + b * second.get(j);
            sum.add(cell);
            divisor = gcd(Math.abs(cell), divisor);
        }
        if (divisor > 1) {
            for (int j = 0; j < sum.size(); j++) sum.set(j, sum.get(j) / divisor);
        }
        return sum;
    }

    private int wallsOf(int region) {
        int walls = 0;
        for (int i = 0; i < planes.size(); i++) {
            if (regions().contains(region ^ 1 << i)) walls |= 1 << i;
        }
        return walls;
    }

    private int[] gallery(int from, int to) {
        Map<Integer, Integer> many = new HashMap<>();
        HashSet<Integer> done = new HashSet<>();
        many.put(from, 1);
        for (int length = 0; ; length++) {
            if (many.containsKey(to)) return new int[] {length, many.get(to)};
            done.addAll(many.keySet());
            Map<Integer, Integer> next = new HashMap<>();
            for (Map.Entry<Integer, Integer> entry : many.entrySet()) {
                for (int i = 0; i < planes.size(); i++) {
                    int other = entry.getKey() ^ 1 << i;
                    if (regions().contains(other) && !done.contains(other)) {
                        next.merge(other, entry.getValue(), Integer::sum);
                    }
                }
            }
            many = next;
        }
    }

    // ---- modular flats

    private List<Integer> modular() {
        if (facts().modular == null) {
            List<Integer> list = new ArrayList<>();
            List<Integer> flats = flatsOf(-1);
            for (int x : flats) {
                boolean good = true;
                for (int y : flats) good &= rankOf(x) + rankOf(y) == rankOf(x | y) + rankOf(x & y);
                if (good) list.add(x);
            }
            facts().modular = list;
        }
        return facts().modular;
    }

    private List<Integer> firstChain(List<Integer> begun) {
        if (begun.size() == rankOf(all()) + 1) return begun;
        for (int x : modular()) {
            int last = begun.get(begun.size() - 1);
            if (rankOf(x) == begun.size() && (x & last) == last) {
                List<Integer> longer = new ArrayList<>(begun);
                longer.add(x);
                List<Integer> whole = firstChain(longer);
                if (whole != null) return whole;
            }
        }
        return null;
    }

    // ---- the algebra

    private List<Integer> baseSets(int k) {
        List<Integer> list = new ArrayList<>();
        for (int set = 0; set <= all(); set++) {
            boolean good = Integer.bitCount(set) == k && free(set);
            for (int i = 0; i < circuits().size() && good; i++) {
                int circuit = circuits().get(i);
                int broken = circuit ^ Integer.lowestOneBit(circuit);
                good = (set & broken) != broken;
            }
            if (good) list.add(set);
        }
        return list;
    }

    /** Of each set of k hyperplanes the sum, found by solving all relations modulo a great prime. */
    private Map<Integer, Map<Integer, Long>> forms(int k) {
        if (facts().forms.containsKey(k)) return facts().forms.get(k);
        List<Integer> base = baseSets(k);
        List<Integer> order = new ArrayList<>();
        for (int set = 0; set <= all(); set++) {
            if (Integer.bitCount(set) == k && free(set) && !base.contains(set)) order.add(set);
        }
        int pivots = order.size();
        order.addAll(base);
        List<long[]> rows = new ArrayList<>();
        for (int circuit : circuits()) {
            int more = k - Integer.bitCount(circuit) + 1;
            for (int rest = 0; rest <= all(); rest++) {
                if (Integer.bitCount(rest) == more && (rest & circuit) == 0) {
                    rows.add(relation(circuit, rest, order));
                }
            }
        }
        Map<Integer, Map<Integer, Long>> forms = new HashMap<>();
        for (int b : base) forms.put(b, new HashMap<>(Map.of(b, 1L)));
        solve(rows, pivots);
        for (int c = 0; c < pivots; c++) {
            Map<Integer, Long> sum = new HashMap<>();
            for (int d = pivots; d < order.size(); d++) {
                long value = Math.floorMod(-rows.get(c)[d], PRIME);
                if (value != 0) sum.put(order.get(d), value > PRIME / 2 ? value - PRIME : value);
            }
            forms.put(order.get(c), sum);
        }
        facts().forms.put(k, forms);
        return forms;
    }

    private long[] relation(int circuit, int rest, List<Integer> order) {
        long[] row = new long[order.size()];
        int j = 0;
        for (int i = 0; i < planes.size(); i++) {
            if ((circuit >> i & 1) == 0) continue;
            j++;
            List<Integer> sequence = new ArrayList<>();
            addPlanes(circuit ^ 1 << i, sequence);
            addPlanes(rest, sequence);
            int place = order.indexOf(circuit ^ 1 << i | rest);
            if (place >= 0) {
                long sign = (j % 2 == 1 ? -1 : 1) * parity(sequence);
                row[place] = Math.floorMod(row[place] + sign, PRIME);
            }
        }
        return row;
    }

    private static void addPlanes(int set, List<Integer> sequence) {
        for (int i = 0; i < 9; i++) {
            if ((set >> i & 1) != 0) sequence.add(i);
        }
    }

    private static int parity(List<Integer> sequence) {
        int sign = 1;
        for (int a = 0; a < sequence.size(); a++) {
            for (int b = a + 1; b < sequence.size(); b++) {
                if (sequence.get(a) > sequence.get(b)) sign = -sign;
            }
        }
        return sign;
    }

    private static void solve(List<long[]> rows, int pivots) {
        for (int c = 0; c < pivots; c++) {
            int found = c;
            while (rows.get(found)[c] == 0) found++;
            long[] row = rows.get(found);
            rows.set(found, rows.get(c));
            rows.set(c, row);
            long inverse = power(row[c], PRIME - 2);
            for (int d = 0; d < row.length; d++) row[d] = row[d] * inverse % PRIME;
            for (int r = 0; r < rows.size(); r++) {
                long[] other = rows.get(r);
                long factor = other[c];
                if (r == c || factor == 0) continue;
                for (int d = 0; d < row.length; d++) {
                    other[d] = Math.floorMod(other[d] - factor * row[d], PRIME);
                }
            }
        }
        for (int r = pivots; r < rows.size(); r++) {
            for (long cell : rows.get(r)) {
                if (cell != 0) throw new IllegalStateException("the base sets are dependent");
            }
        }
    }

    private static long power(long a, long n) {
        return n == 0 ? 1 : power(a * a % PRIME, n / 2) * (n % 2 == 1 ? a : 1) % PRIME;
    }

    // ---- texts

    /** The commands of the text, or the error position alone, less 1 and negative. */
    private int parse(List<int[]> commands) {
        int d = dims;
        int at = 0;
        while (true) {
            at = skip(at);
            if (at == text.length() && !commands.isEmpty()) return 0;
            if (at == text.length() || "dptxsm".indexOf(text.charAt(at)) < 0) return -1 - at;
            char verb = text.charAt(at++);
            int many = verb == 'p' ? d : verb == 's' ? 2 : 1;
            int[] command = {verb, 0, 0, 0, 0};
            for (int k = 1; k <= many; k++) {
                at = skip(at);
                String allowed = verb == 'd' ? "234" : "0123456789";
                int sign = 1;
                if (verb == 'p' && at < text.length() && text.charAt(at) == '-') {
                    at++;
                    sign = -1;
                    allowed = "123456789";
                }
                if (at == text.length() || allowed.indexOf(text.charAt(at)) < 0) return -1 - at;
                command[k] = sign * (text.charAt(at++) - '0');
            }
            at = skip(at);
            if (at == text.length() || text.charAt(at) != ';') return -1 - at;
            at++;
            if (verb == 'd') d = command[1];
            commands.add(command);
        }
    }

    private int skip(int from) {
        int at = from;
        while (at < text.length() && text.charAt(at) == ' ') at++;
        return at;
    }

    private static int listed(List<Integer> list, int i) {
        return i == -1 ? list.size() : i < list.size() ? list.get(i) : -5;
    }

    // ---- the face

    int space(int n) {
        return change('d', n);
    }

    int plane(int a, int b, int c, int e) {
        return change('p', a, b, c, e);
    }

    int turns(int i) {
        int code = change('t', i);
        return code < 0 ? code : regions().size();
    }

    int drops(int i) {
        return change('x', i);
    }

    int swaps(int i, int j) {
        int code = change('s', i, j);
        return code < 0 ? code : rankOf(all());
    }

    int makes(int kind) {
        return change('m', kind);
    }

    int of(int i, int j) {
        return !isPlane(i) || j < 0 || j >= dims ? error(BAD) : planes.get(i)[j] + 10;
    }

    int rank(int set) {
        return isSet(set) ? rankOf(set) : error(BAD);
    }

    int closed(int set) {
        return isSet(set) ? closure(set) : error(BAD);
    }

    int flats(int k, int i) {
        return k < 0 || k > 4 || i < -1 ? error(BAD) : listed(flatsOf(k), i);
    }

    int sign(int flat) {
        if (!isSet(flat)) return error(BAD);
        return isFlat(flat) ? moebius(flat, new HashMap<>()) + 1000 : error(NO);
    }

    int rings(int i) {
        return i < -1 ? error(BAD) : listed(circuits(), i);
    }

    int factor(int i, int plane) {
        if (i < 0 || !isPlane(plane)) return error(BAD);
        return i < circuits().size() ? (int) factors(circuits().get(i))[plane] + 10000 : error(NO);
    }

    int polynomial(int set, int j) {
        return !isSet(set) || j < 0 || j > 4 ? error(BAD) : coefficient(set, j) + 1000;
    }

    int value(int t) {
        if (t < -9 || t > 9) return error(BAD);
        int sum = 0;
        int power = 1;
        for (int j = 0; j <= 4; j++) {
            sum += coefficient(all(), j) * power;
            power *= t;
        }
        return sum + 100000;
    }

    int within(int i, int j) {
        if (!isPlane(i) || j < 0 || j > 3) return error(BAD);
        return coefficient(all() ^ 1 << i, j) - coefficient(all(), j) + 1000;
    }

    int parts(int i) {
        return i < -1 ? error(BAD) : listed(new ArrayList<>(regions()), i);
    }

    int walls(int part) {
        if (!isSet(part)) return error(BAD);
        return regions().contains(part) ? wallsOf(part) : error(NO);
    }

    int way(int from, int to, int what) {
        if (!isSet(from) || !isSet(to) || what < 0 || what > 1) return error(BAD);
        if (!regions().contains(from) || !regions().contains(to)) return error(NO);
        return gallery(from, to)[what];
    }

    int chain(int i, int what) {
        if (i < 0 || what < 0 || what > 1) return error(BAD);
        List<Integer> chain = firstChain(List.of(0));
        if (chain == null) return error(NO);
        if (i == 0) return chain.size() - 1;
        if (i >= chain.size()) return -5;
        return what == 0 ? chain.get(i) : Integer.bitCount(chain.get(i)) - Integer.bitCount(chain.get(i - 1));
    }

    int even(int k) {
        if (k < 0 || k > 4) return error(BAD);
        int count = 0;
        for (int x : modular()) {
            if (rankOf(x) == k) count++;
        }
        return count;
    }

    int places(int p, int what) {
        if (p != 2 && p != 3 && p != 5 && p != 7 || what < 0 || what > 1) return error(BAD);
        if (what == 1) {
            int[] modulo = ranks(p);
            for (int set = 0; set <= all(); set++) {
                if (free(set) && modulo[set] != Integer.bitCount(set)) return 0;
            }
            return 1;
        }
        return points(p, 0, new int[4]);
    }

    private int points(int p, int j, int[] x) {
        int count = 0;
        if (j == dims) {
            for (int[] plane : planes) {
                int sum = 0;
                for (int k = 0; k < dims; k++) sum += plane[k] * x[k];
                if (sum % p == 0) return 0;
            }
            return 1;
        }
        for (x[j] = 0; x[j] < p; x[j]++) count += points(p, j + 1, x);
        return count;
    }

    int base(int k, int i) {
        return k < 0 || k > 4 || i < -1 ? error(BAD) : listed(baseSets(k), i);
    }

    int form(int set, int i) {
        if (!isSet(set) || Integer.bitCount(set) > 4 || i < 0) return error(BAD);
        int k = Integer.bitCount(set);
        List<Integer> base = baseSets(k);
        if (i >= base.size()) return error(NO);
        if (!free(set)) return 1000;
        return (int) (long) forms(k).get(set).getOrDefault(base.get(i), 0L) + 1000;
    }

    int type(int c) {
        if (c < 0 || c > 127) return error(BAD);
        if (text.length() == 100) return error(FULL);
        text += (char) c;
        return text.length();
    }

    int clear() {
        int had = text.length();
        text = "";
        return had;
    }

    int reads() {
        List<int[]> commands = new ArrayList<>();
        int flaw = parse(commands);
        if (flaw < 0) return -10 - (-1 - flaw);
        Object[] earlier = state();
        for (int k = 0; k < commands.size(); k++) {
            int[] c = commands.get(k);
            int code = perform((char) c[0], c[1], c[2], c[3], c[4]);
            if (code < 0) {
                restore(earlier);
                whyError = -code;
                whyIndex = k;
                return -1000 - k;
            }
        }
        remember(earlier);
        return commands.size();
    }

    int why(int what) {
        return what == 0 ? whyError : what == 1 ? whyIndex : error(BAD);
    }

    int back() {
        if (undo.isEmpty()) return error(NO);
        restore(undo.remove(undo.size() - 1));
        return undo.size();
    }

    int told(int what) {
        if (what < 0 || what > 7) return error(BAD);
        if (what <= 2) return errors[what];
        return List.of(text.length(), dims, planes.size(), rankOf(all()), undo.size()).get(what - 3);
    }

    long digest() {
        List<Integer> numbers = new ArrayList<>();
        for (int what = 0; what < 8; what++) numbers.add(told(what));
        numbers.add(why(0));
        numbers.add(why(1));
        for (int i = 0; i < planes.size(); i++) {
            for (int j = 0; j < dims; j++) numbers.add(of(i, j));
        }
        for (int k = 0; k <= 4; k++) numbers.add(flats(k, -1));
        for (int j = 0; j <= 4; j++) numbers.add(polynomial(all(), j));
        numbers.add(rings(-1));
        numbers.add(parts(-1));
        for (int k = 0; k <= 4; k++) numbers.add(base(k, -1));
        long h = 2351;
        for (int v : numbers) h = 31 * h + v;
        return h;
    }
}
