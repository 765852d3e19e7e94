import java.util.Arrays;

/** The boundary cases of MATROID and of the promises 9 to 17, each sentence with a test of its own. */
public final class EdgesOfMatroidTest extends Bench {
    private static final Due DUE = new Due("EdgesOfMatroidTest");

    public static void main(String[] args) {
        rank();
        closed();
        flats();
        sign();
        rings();
        ringsInOrder();
        factor();
        greatFactors();
        polynomial();
        value();
        within();
        DUE.end();
    }

    // ---- promises 9 and 10

    private static void rank() {
        DUE.sentence("The rank of a set of hyperplanes is that of the matrix of their coefficients: 0 for the empty set");
        for (int many = 0; many <= 9; many++) {
            DUE.is("rank(0) of " + many, firstOfNine(many).rank(0), 0);
        }
        DUE.sentence("The rank of a set of hyperplanes: up to D");
        PlaneCuts nine = nineGeneric();
        int[] due = {0, 1, 2, 3, 4, 4, 4, 4, 4, 4};
        for (int many = 0; many <= 9; many++) {
            DUE.is("the first " + many, nine.rank((1 << many) - 1), due[many]);
            DUE.is("the last " + many, nine.rank(511 & ~((1 << 9 - many) - 1)), due[many]);
        }
        DUE.is("nine lines", nineLines().rank(511), 2);
        DUE.is("nine planes", made(3, 3).rank(511), 3);
        DUE.is("nine of three coordinates, in four", with(4, 1, 0, 0, 0, 0, 1, 0, 0, 0, 0, 1, 0, 1, 1, 0, 0, 1, 0, 1, 0,
                0, 1, 1, 0, 1, -1, 0, 0, 1, 0, -1, 0, 1, 1, 1, 0).rank(511), 3);
        DUE.sentence("A set is dependent if its rank is less than its size, otherwise independent");
        PlaneCuts x = with(3, 1, 0, 0, 0, 0, 1, 0, 0, 3, -3, 0, 0, 0, 0, 1, 0);
        DUE.is("a determinant that is not 0", x.rank(11), 3);
        DUE.is("a determinant of 0", x.rank(7), 2);
        DUE.is("a determinant of 1", with(3, 3, 2, 0, 0, 1, 1, 0, 0, 0, 0, 1, 0).rank(7), 3);
        DUE.is("a determinant of 3, modulo nothing", with(2, 3, 0, 0, 0, 0, 1, 0, 0).rank(3), 2);
        DUE.sentence("Promise 9: BAD if set is not a set of hyperplanes");
        for (int many = 0; many <= 9; many++) {
            int size = many;
            DUE.is("all of " + many, firstOfNine(many).rank((1 << many) - 1), Math.min(many, 4));
            for (int set : wrongSets(many)) {
                refused(DUE, "rank(" + set + ") of " + many, () -> firstOfNine(size), y -> y.rank(set), BAD);
            }
        }
    }

    private static void closed() {
        DUE.sentence("The closure of a set contains all hyperplanes whose addition does not increase its rank");
        PlaneCuts x = made(3, 3);
        DUE.is("of the empty set", x.closed(0), 0);
        for (int i = 0; i < 9; i++) {
            DUE.is("of one", x.closed(1 << i), 1 << i);
        }
        DUE.is("of all", x.closed(511), 511);
        DUE.is("of three of rank 3", x.closed(7), 511);
        DUE.is("of two, with two more", x.closed(3), 27);
        DUE.is("of the two more", x.closed(24), 27);
        DUE.is("of two, with none more", x.closed(4 | 8), 4 | 8);
        DUE.is("of none", new PlaneCuts().closed(0), 0);
        DUE.is("of two of nine lines", nineLines().closed(3), 511);
        DUE.is("of one of nine lines", nineLines().closed(256), 256);
        DUE.sentence("Promise 10: BAD if set is not a set of hyperplanes");
        for (int many = 0; many <= 9; many++) {
            int size = many;
            int all = (1 << many) - 1;
            DUE.is("all of " + many, firstOfNine(many).closed(all), all);
            for (int set : wrongSets(many)) {
                refused(DUE, "closed(" + set + ") of " + many, () -> firstOfNine(size), y -> y.closed(set), BAD);
            }
        }
    }

    // ---- promises 11 and 12

    private static void flats() {
        DUE.sentence("A flat is a set that equals its closure: the empty set, each hyperplane, and all");
        for (int many = 0; many <= 9; many++) {
            PlaneCuts x = firstOfNine(many);
            DUE.is("of rank 0, number", x.flats(0, NONE), 1);
            DUE.is("of rank 0", x.flats(0, 0), 0);
            DUE.is("of rank 1, number", x.flats(1, NONE), many);
            if (many > 0) {
                DUE.is("of rank 1, last", x.flats(1, many - 1), 1 << many - 1);
                DUE.is("of the rank of all, number", x.flats(Math.min(many, 4), NONE), 1);
                DUE.is("of the rank of all", x.flats(Math.min(many, 4), 0), (1 << many) - 1);
            }
        }
        DUE.sentence("Promise 11: the rank, 0 to 4: also above the rank of all and above D");
        for (int d = 2; d <= 4; d++) {
            PlaneCuts none = with(d);
            for (int k = 1; k <= 4; k++) {
                DUE.is("number of rank " + k, none.flats(k, NONE), 0);
                DUE.is("first of rank " + k, none.flats(k, 0), BEYOND);
            }
            DUE.is("no error", counts(none), "0 0 0");
        }
        DUE.is("rank 3 of lines", nineLines().flats(3, NONE), 0);
        DUE.is("rank 4 of planes", made(3, 3).flats(4, NONE), 0);
        DUE.sentence("Promise 11: NONE for the number of these flats; otherwise the index, from 0; -5 if there is no index i");
        PlaneCuts x = nineGeneric();
        int[] number = {1, 9, 36, 84, 1};
        int[] last = {0, 256, 384, 448, 511};
        for (int k = 0; k <= 4; k++) {
            DUE.is("number", x.flats(k, NONE), number[k]);
            DUE.is("last", x.flats(k, number[k] - 1), last[k]);
            DUE.is("beyond", x.flats(k, number[k]), BEYOND);
            DUE.is("far beyond", x.flats(k, MOST), BEYOND);
        }
        DUE.is("no error", counts(x), "0 0 0");
        DUE.sentence("Promise 11: BAD if k is out of range");
        for (int k : new int[] {-1, 5, 6, LEAST, MOST}) {
            for (int i : new int[] {NONE, 0, MOST}) {
                refused(DUE, "flats(" + k + ", " + i + ")", () -> made(4, 0), y -> y.flats(k, i), BAD);
            }
        }
        DUE.sentence("Promise 11: BAD if i is below -1");
        for (int k = 0; k <= 4; k++) {
            int rank = k;
            for (int i : new int[] {-2, -3, -5, LEAST}) {
                refused(DUE, "flats(" + k + ", " + i + ")", () -> made(4, 0), y -> y.flats(rank, i), BAD);
            }
        }
    }

    private static void sign() {
        DUE.sentence("The Moebius value of the flat of rank 0 (the empty set) is 1");
        for (int many = 0; many <= 9; many++) {
            DUE.is("sign(0) of " + many, firstOfNine(many).sign(0), 1001);
        }
        DUE.sentence("that of any other flat is minus the sum of those of all flats that are proper subsets of it");
        PlaneCuts nine = nineGeneric();
        DUE.is("one", nine.sign(256), 999);
        DUE.is("two", nine.sign(384), 1001);
        DUE.is("three", nine.sign(448), 999);
        DUE.is("all, the greatest value", nine.sign(511), 1056);
        DUE.is("nine lines", nineLines().sign(511), 1008);
        DUE.is("nine planes", made(3, 3).sign(511), 985);
        DUE.is("nine planes, each three independent", ninePlanes().sign(511), 972);
        DUE.sentence("Promise 12: BAD if flat is not a set of hyperplanes");
        for (int many = 0; many <= 9; many++) {
            int size = many;
            for (int set : wrongSets(many)) {
                refused(DUE, "sign(" + set + ") of " + many, () -> firstOfNine(size), y -> y.sign(set), BAD);
            }
        }
        DUE.sentence("Promise 12: NO if it is not a flat");
        for (int set : new int[] {15, 510, 255, 496}) {
            refused(DUE, "sign(" + set + ")", () -> nineGeneric(), y -> y.sign(set), NO);
        }
        refused(DUE, "three of four", () -> fourGeneric(), y -> y.sign(7), NO);
        refused(DUE, "two of nine lines", () -> nineLines(), y -> y.sign(3), NO);
        DUE.is("one of nine lines", nineLines().sign(1), 999);
    }

    // ---- promises 13 and 14

    private static void rings() {
        DUE.sentence("A circuit is a dependent set of which every proper subset is independent: none at all");
        for (int many = 0; many <= 4; many++) {
            PlaneCuts x = firstOfNine(many);
            DUE.is("number", x.rings(NONE), 0);
            DUE.is("first", x.rings(0), BEYOND);
        }
        DUE.sentence("A circuit: of three at least, of D + 1 at most");
        DUE.is("the first of three lines", with(2, 1, 0, 0, 0, 0, 1, 0, 0, 1, 1, 0, 0).rings(0), 7);
        DUE.is("four of rank 2 in three dimensions have circuits of three alone",
                with(3, 1, 0, 0, 0, 0, 1, 0, 0, 1, 1, 0, 0, 1, -1, 0, 0).rings(NONE), 4);
        DUE.is("four in three dimensions", fourGeneric().rings(0), 15);
        DUE.is("five in four dimensions", firstOfNine(5).rings(0), 31);
        DUE.is("all five, not a part with one more", firstOfNine(5).rings(NONE), 1);
        DUE.is("a circuit and one apart", with(3, 1, 0, 0, 0, 0, 1, 0, 0, 0, 0, 1, 0, 1, 1, 0, 0).rings(NONE), 1);
        DUE.sentence("Promise 13: NONE for the number of circuits; otherwise the index, from 0; -5 if there is no index i");
        PlaneCuts nine = nineGeneric();
        DUE.is("number", nine.rings(NONE), 126);
        DUE.is("first", nine.rings(0), 31);
        DUE.is("last", nine.rings(125), 496);
        DUE.is("beyond", nine.rings(126), BEYOND);
        DUE.is("far beyond", nine.rings(MOST), BEYOND);
        DUE.is("no error", counts(nine), "0 0 0");
        DUE.is("nine lines, last", nineLines().rings(83), 448);
        DUE.is("nine lines, beyond", nineLines().rings(84), BEYOND);
        DUE.sentence("Promise 13: BAD if i is below -1");
        for (int i : new int[] {-2, -3, -5, LEAST}) {
            refused(DUE, "rings(" + i + ")", () -> nineLines(), y -> y.rings(i), BAD);
            refused(DUE, "rings(" + i + ")", PlaneCuts::new, y -> y.rings(i), BAD);
        }
    }

    private static void ringsInOrder() {
        DUE.sentence("Circuits are ordered by size, those of the same size in ascending order");
        // x, y, z, x + y + z, then x + y: the circuits of three have greater numbers than that of the first four.
        PlaneCuts x = with(3, 1, 0, 0, 0, 0, 1, 0, 0, 0, 0, 1, 0, 1, 1, 1, 0, 1, 1, 0, 0);
        int[] due = {19, 28, 15};
        DUE.is("number", x.rings(NONE), 3);
        for (int i = 0; i < 3; i++) {
            DUE.is("rings(" + i + ")", x.rings(i), due[i]);
        }
        // In four dimensions sizes 3, 4 and 5, of which the smallest number is that of five.
        PlaneCuts y = with(4, 1, 0, 0, 0, 0, 1, 0, 0, 0, 0, 1, 0, 0, 0, 0, 1, 1, 1, 1, 1, 1, 1, 1, 0, 1, 1, 0, 0);
        int[] sizes = new int[y.rings(NONE)];
        int[] sets = new int[sizes.length];
        for (int i = 0; i < sizes.length; i++) {
            sets[i] = y.rings(i);
            sizes[i] = Integer.bitCount(sets[i]);
        }
        for (int i = 1; i < sizes.length; i++) {
            DUE.holds("at " + i + " of " + Arrays.toString(sets),
                    sizes[i - 1] < sizes[i] || sizes[i - 1] == sizes[i] && sets[i - 1] < sets[i]);
        }
        DUE.is("the first, of three", sets[0], 56);
        DUE.is("the second, of three", sets[1], 64 | 3);
        DUE.is("the last, of five", sets[sets.length - 1], 31);
        DUE.holds("one of four between", Arrays.stream(sizes).anyMatch(size -> size == 4));
    }

    private static void factor() {
        DUE.sentence("The factors of a circuit: none of them 0, without a common divisor above 1");
        PlaneCuts x = with(2, 2, 0, 0, 0, 0, 2, 0, 0, 2, 2, 0, 0);
        factorsAre(x, 0, 1, 1, -1);
        factorsAre(with(2, 3, 0, 0, 0, 0, 2, 0, 0, 1, 1, 0, 0), 0, 2, 3, -6);
        factorsAre(with(2, 1, 0, 0, 0, 0, 1, 0, 0, 3, -3, 0, 0), 0, 3, -3, -1);
        DUE.sentence("The factors of a circuit: that of the lowest hyperplane positive");
        factorsAre(with(2, -1, 0, 0, 0, 0, 1, 0, 0, 1, 1, 0, 0), 0, 1, -1, 1);
        factorsAre(with(2, 1, 1, 0, 0, -1, 0, 0, 0, 0, -1, 0, 0), 0, 1, 1, 1);
        factorsAre(with(2, 1, 1, 0, 0, 1, 0, 0, 0, 0, -1, 0, 0), 0, 1, -1, 1);
        PlaneCuts later = with(3, 0, 0, 1, 0, -1, 0, 0, 0, 0, 1, 0, 0, 1, 1, 0, 0);
        factorsAre(later, 0, 0, 1, -1, 1);
        DUE.sentence("Promise 14: Returns its factor plus 10000 (10000 if the hyperplane is not in the circuit)");
        DUE.is("not in it", later.factor(0, 0), 10000);
        DUE.is("in it", later.factor(0, 1), 10001);
        DUE.is("the last, below 0", with(2, 1, 0, 0, 0, 0, 1, 0, 0, 3, 3, 0, 0).factor(0, 2), 9999);
        DUE.sentence("Promise 14: BAD if i is negative");
        for (int i : new int[] {-1, -2, LEAST}) {
            refused(DUE, "factor(" + i + ", 0)", () -> nineLines(), y -> y.factor(i, 0), BAD);
        }
        DUE.sentence("Promise 14: BAD if there is no such hyperplane");
        for (int plane : new int[] {9, -1, 10, LEAST, MOST}) {
            refused(DUE, "factor(0, " + plane + ")", () -> nineLines(), y -> y.factor(0, plane), BAD);
        }
        refused(DUE, "factor(0, 5) of five", () -> fiveLines(), y -> y.factor(0, 5), BAD);
        refused(DUE, "factor(0, 0) of none", PlaneCuts::new, y -> y.factor(0, 0), BAD);
        DUE.is("factor(0, 4) of five", fiveLines().factor(0, 4), 10000);
        DUE.sentence("Promise 14: NO if there is no circuit i");
        DUE.is("the last", nineGeneric().factor(125, 0), 10000);
        refused(DUE, "factor(126, 0)", () -> nineGeneric(), y -> y.factor(126, 0), NO);
        refused(DUE, "factor(MOST, 8)", () -> nineGeneric(), y -> y.factor(MOST, 8), NO);
        refused(DUE, "factor(0, 0) without circuits", () -> made(4, 0), y -> y.factor(0, 0), NO);
    }

    private static void factorsAre(PlaneCuts x, int circuit, int... factors) {
        for (int h = 0; h < factors.length; h++) {
            DUE.is("factor(" + circuit + ", " + h + ")", x.factor(circuit, h), factors[h] + 10000);
        }
    }

    private static void greatFactors() {
        DUE.sentence("such that the factors times the coefficients sum to 0 in each dimension: great ones");
        int[] rows = {3, 2, 3, 3, 1, 0, -1, 3, -3, 3, 3, -3, -3, 3, -2, 3, 3, 3, -3, -2};
        PlaneCuts x = with(4, rows);
        int[] due = {255, -1023, -434, 306, -42};
        for (int j = 0; j < 4; j++) {
            int sum = 0;
            for (int h = 0; h < 5; h++) {
                sum += (x.factor(0, h) - 10000) * rows[4 * h + j];
            }
            DUE.is("sum in dimension " + j, sum, 0);
        }
        factorsAre(x, 0, due);
    }

    // ---- promises 15 to 17

    private static void polynomial() {
        DUE.sentence("The characteristic polynomial: over all subsets B of S with rank D - j (the empty set included)");
        for (int d = 2; d <= 4; d++) {
            PlaneCuts none = with(d);
            PlaneCuts one = with(d, 1, 1, 0, 0);
            for (int j = 0; j <= 4; j++) {
                DUE.is("of the empty set of none, in " + d, none.polynomial(0, j), j == d ? 1001 : 1000);
                DUE.is("of the empty set of one, in " + d, one.polynomial(0, j), j == d ? 1001 : 1000);
                DUE.is("of one, in " + d, one.polynomial(1, j), j == d ? 1001 : j == d - 1 ? 999 : 1000);
            }
        }
        DUE.sentence("Promise 15: the power of t, 0 to 4: of nine hyperplanes, and of one left out");
        PlaneCuts nine = nineGeneric();
        int[] all = {56, -84, 36, -9, 1};
        int[] eight = {35, -56, 28, -8, 1};
        for (int j = 0; j <= 4; j++) {
            DUE.is("polynomial(511, " + j + ")", nine.polynomial(511, j), all[j] + 1000);
            DUE.is("polynomial(255, " + j + ")", nine.polynomial(255, j), eight[j] + 1000);
            DUE.is("polynomial(510, " + j + ")", nine.polynomial(510, j), eight[j] + 1000);
        }
        DUE.is("a power above D", nineLines().polynomial(511, 3), 1000);
        DUE.is("the greatest power above D", nineLines().polynomial(511, 4), 1000);
        DUE.is("no error", counts(nine), "0 0 0");
        DUE.sentence("Promise 15: BAD if set is not a set of hyperplanes");
        for (int many = 0; many <= 9; many++) {
            int size = many;
            for (int set : wrongSets(many)) {
                refused(DUE, "polynomial(" + set + ", 0)", () -> firstOfNine(size), y -> y.polynomial(set, 0), BAD);
            }
        }
        DUE.sentence("Promise 15: BAD if j is out of range");
        for (int j : new int[] {-1, 5, 6, LEAST, MOST}) {
            refused(DUE, "polynomial(0, " + j + ")", () -> with(2), y -> y.polynomial(0, j), BAD);
            refused(DUE, "polynomial(511, " + j + ")", () -> nineGeneric(), y -> y.polynomial(511, j), BAD);
        }
    }

    private static void value() {
        DUE.sentence("Promise 16: the value of the characteristic polynomial at a number, -9 to 9");
        PlaneCuts nine = nineGeneric();
        for (int t = -9; t <= 9; t++) {
            int due = t * t * t * t - 9 * t * t * t + 36 * t * t - 84 * t + 56;
            DUE.is("value(" + t + ")", nine.value(t), due + 100000);
        }
        DUE.is("the least t", nine.value(-9), 116850);
        DUE.is("the greatest t", nine.value(9), 102216);
        DUE.is("none, the least t", with(3).value(-9), 99271);
        DUE.is("none, the greatest t", with(4).value(9), 106561);
        DUE.is("none, at 0", with(2).value(0), 100000);
        DUE.is("nine planes, the least t", made(3, 3).value(-9), 100000 - 10 * 12 * 14);
        DUE.sentence("Promise 16: BAD if t is out of range");
        for (int t : new int[] {-10, 10, -11, 11, LEAST, MOST}) {
            refused(DUE, "value(" + t + ")", () -> nineGeneric(), y -> y.value(t), BAD);
            refused(DUE, "value(" + t + ")", PlaneCuts::new, y -> y.value(t), BAD);
        }
    }

    private static void within() {
        DUE.sentence("Promise 17: the polynomial of all hyperplanes without it, minus the polynomial of all hyperplanes");
        for (int d = 2; d <= 4; d++) {
            for (int j = 0; j <= 3; j++) {
                DUE.is("of the only one, in " + d, with(d, 1, 1, 0, 0).within(0, j), j == d - 1 ? 1001 : 1000);
            }
        }
        PlaneCuts nine = nineGeneric();
        int[] due = {-21, 28, -8, 1};
        for (int j = 0; j <= 3; j++) {
            DUE.is("of the first of nine", nine.within(0, j), due[j] + 1000);
            DUE.is("of the last of nine", nine.within(8, j), due[j] + 1000);
        }
        DUE.is("no error", counts(nine), "0 0 0");
        DUE.sentence("Promise 17: BAD if there is no such hyperplane");
        for (int many = 0; many <= 9; many++) {
            int size = many;
            if (many > 0) {
                DUE.is("the last of " + many, firstOfNine(many).within(many - 1, 3), 1001);
            }
            for (int i : new int[] {many, -1, LEAST, MOST}) {
                refused(DUE, "within(" + i + ", 0) of " + many, () -> firstOfNine(size), y -> y.within(i, 0), BAD);
            }
        }
        DUE.sentence("Promise 17: BAD if j is out of range (the power of t, 0 to 3)");
        for (int j : new int[] {-1, 4, 5, LEAST, MOST}) {
            refused(DUE, "within(0, " + j + ")", () -> nineGeneric(), y -> y.within(0, j), BAD);
            refused(DUE, "within(0, " + j + ")", () -> nineLines(), y -> y.within(0, j), BAD);
        }
    }
}
