/** Each promise of the document with ordinary inputs, its edges, and wrong inputs. */
public final class PromisesTest extends Bench {
    private static final Due DUE = new Due("PromisesTest");

    public static void main(String[] args) {
        promise1();
        promise2();
        promise3();
        promise4();
        promise5();
        promise6();
        promise7();
        promise8();
        promises9And10();
        promises11And12();
        promises13And14();
        promises15To17();
        promises18And19();
        greatestNumbers();
        promise20();
        promises21And22();
        promise23();
        promise24();
        promise25();
        promises26And27();
        promise28();
        readsAndTheRest();
        promise29();
        promise30();
        promise31();
        promise32();
        DUE.end();
    }

    // ---- helpers

    private static void has(PlaneCuts x, String name, String rows) {
        DUE.is(name, rows(x), rows);
    }

    private static void errors(PlaneCuts x, String name, int bad, int no, int full) {
        DUE.is(name + ": counts of errors", counts(x), bad + " " + no + " " + full);
    }

    // ---- changes

    private static void promise1() {
        PlaneCuts x = new PlaneCuts();
        int[] told = {0, 0, 0, 0, 3, 0, 0, 0};
        for (int what = 0; what < 8; what++) {
            DUE.is("new: told(" + what + ")", x.told(what), told[what]);
        }
        DUE.is("new: why(0)", x.why(0), 0);
        DUE.is("new: why(1)", x.why(1), NONE);
        DUE.is("new: clear()", x.clear(), 0);
        DUE.is("new: parts(NONE)", x.parts(NONE), 1);
        DUE.is("new: walls(0)", x.walls(0), 0);
        DUE.is("new: back()", x.back(), NO);
        DUE.is("NONE", PlaneCuts.NONE, -1);
        DUE.is("BAD", PlaneCuts.BAD, -2);
        DUE.is("NO", PlaneCuts.NO, -3);
        DUE.is("FULL", PlaneCuts.FULL, -4);
    }

    private static void promise2() {
        PlaneCuts x = new PlaneCuts();
        for (int n : new int[] {1, 5, 0, -1, LEAST, MOST}) {
            DUE.is("space(" + n + ")", x.space(n), BAD);
        }
        errors(x, "space", 6, 0, 0);
        DUE.is("no change", x.told(7), 0);
        DUE.is("space(4)", x.space(4), 3);
        DUE.is("told(4)", x.told(4), 4);
        DUE.is("plane", x.plane(0, 0, 0, 1), 0);
        DUE.is("space(2)", x.space(2), 4);
        DUE.is("told(5)", x.told(5), 0);
        DUE.is("plane", x.plane(1, 0, 0, 0), 0);
        DUE.is("space(2) again", x.space(2), 2);
        DUE.is("removes all", x.told(5), 0);
        DUE.is("is a change", x.told(7), 5);
        DUE.is("space(5)", x.space(5), BAD);
        DUE.is("space(3)", x.space(3), 2);
    }

    private static void promise3() {
        PlaneCuts x = new PlaneCuts();
        DUE.is("plane(-3, 3, -3, 0)", x.plane(-3, 3, -3, 0), 0);
        int[][] bad = {{4, 0, 0, 0}, {-4, 0, 0, 0}, {0, 4, 0, 0}, {0, -4, 0, 0}, {0, 0, 4, 0}, {0, 0, -4, 0},
            {0, 0, 0, 0}, {1, 1, 1, 1}, {0, 0, 0, 1}, {1, 0, 0, 4}, {LEAST, 0, 0, 0}, {1, MOST, 0, 0}};
        for (int[] row : bad) {
            DUE.is("plane", x.plane(row[0], row[1], row[2], row[3]), BAD);
        }
        errors(x, "plane", bad.length, 0, 0);
        DUE.is("the same", x.plane(-3, 3, -3, 0), NO);
        DUE.is("a multiple", x.plane(1, -1, 1, 0), NO);
        DUE.is("a negative multiple", x.plane(2, -2, 2, 0), NO);
        DUE.is("not a multiple", x.plane(2, -2, 3, 0), 1);
        DUE.is("(0 1 2)", x.plane(0, 1, 2, 0), 2);
        DUE.is("(0 2 1)", x.plane(0, 2, 1, 0), 3);
        DUE.is("(0 -2 -1)", x.plane(0, -2, -1, 0), NO);
        DUE.is("(1 0 0)", x.plane(1, 0, 0, 0), 4);
        DUE.is("(0 0 1)", x.plane(0, 0, 1, 0), 5);
        DUE.is("(0 3 0)", x.plane(0, 3, 0, 0), 6);
        DUE.is("(1 1 0)", x.plane(1, 1, 0, 0), 7);
        DUE.is("(1 2 3)", x.plane(1, 2, 3, 0), 8);
        DUE.is("a tenth", x.plane(3, 2, 1, 0), FULL);
        DUE.is("the same rather than a tenth", x.plane(-2, -2, 0, 0), NO);
        DUE.is("out of range rather than a tenth", x.plane(4, 2, 1, 0), BAD);
        DUE.is("beyond D rather than the same", x.plane(1, 2, 3, 1), BAD);
        errors(x, "plane", bad.length + 2, 5, 1);
        DUE.is("told(5)", x.told(5), 9);
        DUE.is("told(7)", x.told(7), 6);
        x.space(2);
        DUE.is("third of two", x.plane(1, 1, 1, 0), BAD);
        DUE.is("fourth of two", x.plane(1, 1, 0, 1), BAD);
        DUE.is("(3 -3)", x.plane(3, -3, 0, 0), 0);
        DUE.is("(-2 2)", x.plane(-2, 2, 0, 0), NO);
        x.space(4);
        DUE.is("(0 0 0 -3)", x.plane(0, 0, 0, -3), 0);
        DUE.is("(0 0 0 2)", x.plane(0, 0, 0, 2), NO);
        DUE.is("(1 0 0 4)", x.plane(1, 0, 0, 4), BAD);
        DUE.is("(1 0 0 -4)", x.plane(1, 0, 0, -4), BAD);
        DUE.is("(1 1 1 1)", x.plane(1, 1, 1, 1), 1);
        DUE.is("(1 1 1 -1)", x.plane(1, 1, 1, -1), 2);
        has(x, "plane", "0 0 0 -3, 1 1 1 1, 1 1 1 -1");
    }

    private static void promise4() {
        PlaneCuts x = with(3, 1, -2, 0, 0, 0, 3, 1, 0);
        DUE.is("turns(0)", x.turns(0), 4);
        has(x, "turns(0)", "-1 2 0, 0 3 1");
        DUE.is("turns(1)", x.turns(1), 4);
        has(x, "turns(1)", "-1 2 0, 0 -3 -1");
        DUE.is("told(7)", x.told(7), 5);
        for (int i : new int[] {2, -1, 9, LEAST, MOST}) {
            DUE.is("turns(" + i + ")", x.turns(i), BAD);
        }
        errors(x, "turns", 5, 0, 0);
        DUE.is("told(7)", x.told(7), 5);
        DUE.is("of generic planes", fourGeneric().turns(3), 14);
        DUE.is("of lines", fiveLines().turns(0), 10);
        DUE.is("of nine", made(4, 3).turns(8), 80);
        DUE.is("of none", new PlaneCuts().turns(0), BAD);
    }

    private static void promise5() {
        PlaneCuts x = with(3, 1, 2, 3, 0, 0, 1, 0, 0, 0, 0, 1, 0, 1, 0, 0, 0);
        DUE.is("drops(1)", x.drops(1), 3);
        has(x, "drops(1)", "1 2 3, 0 0 1, 1 0 0");
        DUE.is("drops(2)", x.drops(2), 2);
        has(x, "drops(2)", "1 2 3, 0 0 1");
        DUE.is("drops(2) again", x.drops(2), BAD);
        DUE.is("drops(0)", x.drops(0), 1);
        has(x, "drops(0)", "0 0 1");
        DUE.is("drops(0)", x.drops(0), 0);
        DUE.is("of none", x.drops(0), BAD);
        for (int i : new int[] {-1, LEAST, MOST}) {
            DUE.is("drops(" + i + ")", x.drops(i), BAD);
        }
        errors(x, "drops", 5, 0, 0);
        PlaneCuts nine = made(3, 3);
        DUE.is("drops(8)", nine.drops(8), 8);
        DUE.is("drops(0)", nine.drops(0), 7);
        has(nine, "drops", "0 1 0, 0 0 1, 1 -1 0, 1 1 0, 1 0 -1, 1 0 1, 0 1 -1");
    }

    private static void promise6() {
        PlaneCuts x = with(3, 1, 2, 3, 0, 0, 1, 0, 0, 0, 0, 1, 0);
        DUE.is("swaps(0, 2)", x.swaps(0, 2), 3);
        has(x, "swaps(0, 2)", "0 0 1, 0 1 0, 1 2 3");
        DUE.is("swaps(2, 1)", x.swaps(2, 1), 3);
        has(x, "swaps(2, 1)", "0 0 1, 1 2 3, 0 1 0");
        int[][] bad = {{0, 0}, {3, 0}, {0, 3}, {-1, 0}, {0, -1}, {MOST, LEAST}, {3, 3}};
        for (int[] row : bad) {
            DUE.is("swaps(" + row[0] + ", " + row[1] + ")", x.swaps(row[0], row[1]), BAD);
        }
        errors(x, "swaps", bad.length, 0, 0);
        has(x, "swaps", "0 0 1, 1 2 3, 0 1 0");
        DUE.is("rank 2 in three dimensions", made(3, 1).swaps(0, 1), 2);
    }

    private static void promise7() {
        has(made(2, 0), "makes", "1 0, 0 1");
        has(made(2, 1), "makes", "1 -1");
        has(made(2, 2), "makes", "1 -1, 1 1");
        has(made(2, 3), "makes", "1 0, 0 1, 1 -1, 1 1");
        has(made(3, 0), "makes", "1 0 0, 0 1 0, 0 0 1");
        has(made(3, 1), "makes", "1 -1 0, 1 0 -1, 0 1 -1");
        has(made(3, 2), "makes", "1 -1 0, 1 1 0, 1 0 -1, 1 0 1, 0 1 -1, 0 1 1");
        has(made(3, 3), "makes", "1 0 0, 0 1 0, 0 0 1, 1 -1 0, 1 1 0, 1 0 -1, 1 0 1, 0 1 -1, 0 1 1");
        has(made(4, 0), "makes", "1 0 0 0, 0 1 0 0, 0 0 1 0, 0 0 0 1");
        has(made(4, 1), "makes", "1 -1 0 0, 1 0 -1 0, 0 1 -1 0, 1 0 0 -1, 0 1 0 -1, 0 0 1 -1");
        has(made(4, 2), "makes", "1 -1 0 0, 1 1 0 0, 1 0 -1 0, 1 0 1 0, 0 1 -1 0, 0 1 1 0, 1 0 0 -1, 1 0 0 1, 0 1 0 -1");
        has(made(4, 3), "makes", "1 0 0 0, 0 1 0 0, 0 0 1 0, 0 0 0 1, 1 -1 0 0, 1 1 0 0, 1 0 -1 0, 1 0 1 0, 0 1 -1 0");
        int[][] sizes = {{2, 1, 2, 4}, {3, 3, 6, 9}, {4, 6, 9, 9}};
        PlaneCuts x = new PlaneCuts();
        for (int d = 2; d <= 4; d++) {
            x.space(d);
            for (int kind = 0; kind < 4; kind++) {
                DUE.is("makes(" + kind + ")", x.makes(kind), sizes[d - 2][kind]);
                DUE.is("told(5)", x.told(5), sizes[d - 2][kind]);
            }
        }
        for (int kind : new int[] {-1, 4, LEAST, MOST}) {
            DUE.is("makes(" + kind + ")", x.makes(kind), BAD);
        }
        errors(x, "makes", 4, 0, 0);
        DUE.is("told(5)", x.told(5), 9);
        DUE.is("told(4)", x.told(4), 4);
    }

    private static void promise8() {
        PlaneCuts x = with(3, 1, 2, 3, 0, -3, 0, -1, 0);
        DUE.is("of(0, 0)", x.of(0, 0), 11);
        DUE.is("of(0, 2)", x.of(0, 2), 13);
        DUE.is("of(1, 0)", x.of(1, 0), 7);
        DUE.is("of(1, 1)", x.of(1, 1), 10);
        int[][] bad = {{2, 0}, {-1, 0}, {0, -1}, {0, 3}, {1, 4}, {LEAST, MOST}, {MOST, LEAST}};
        for (int[] row : bad) {
            DUE.is("of(" + row[0] + ", " + row[1] + ")", x.of(row[0], row[1]), BAD);
        }
        errors(x, "of", bad.length, 0, 0);
        DUE.is("of(0, 1) of two", fiveLines().of(3, 1), 9);
        DUE.is("of(0, 2) of two", fiveLines().of(0, 2), BAD);
        DUE.is("of(5, 3) of four", made(4, 1).of(5, 3), 9);
    }

    // ---- the matroid, polynomials

    private static void promises9And10() {
        // x, y, z, x + y, and in the fourth place twice x less y.
        PlaneCuts x = with(3, 1, 0, 0, 0, 0, 1, 0, 0, 0, 0, 1, 0, 1, 1, 0, 0, 2, -1, 0, 0);
        int[][] due = {{0, 0, 0}, {1, 1, 1}, {16, 1, 16}, {3, 2, 27}, {24, 2, 27}, {27, 2, 27}, {5, 2, 5}, {4, 1, 4},
            {12, 2, 12}, {7, 3, 31}, {28, 3, 31}, {31, 3, 31}};
        for (int[] row : due) {
            DUE.is("rank(" + row[0] + ")", x.rank(row[0]), row[1]);
            DUE.is("closed(" + row[0] + ")", x.closed(row[0]), row[2]);
        }
        for (int set : new int[] {-1, 32, 33, LEAST, MOST}) {
            DUE.is("rank(" + set + ")", x.rank(set), BAD);
            DUE.is("closed(" + set + ")", x.closed(set), BAD);
        }
        errors(x, "rank, closed", 10, 0, 0);
        PlaneCuts none = new PlaneCuts();
        DUE.is("rank(0) of none", none.rank(0), 0);
        DUE.is("rank(1) of none", none.rank(1), BAD);
        DUE.is("closed(0) of none", none.closed(0), 0);
        DUE.is("closed(1) of none", none.closed(1), BAD);
        DUE.is("rank(511)", made(4, 3).rank(511), 4);
        DUE.is("rank(512)", made(4, 3).rank(512), BAD);
        DUE.is("rank modulo nothing", with(2, 3, 0, 0, 0, 0, 2, 0, 0).rank(3), 2);
    }

    private static void promises11And12() {
        PlaneCuts x = with(3, 1, 0, 0, 0, 0, 1, 0, 0, 0, 0, 1, 0, 1, 1, 0, 0);
        int[][] flats = {{0}, {1, 2, 4, 8}, {5, 6, 11, 12}, {15}, {}};
        int[][] values = {{1}, {-1, -1, -1, -1}, {1, 1, 2, 1}, {-2}, {}};
        for (int k = 0; k <= 4; k++) {
            DUE.is("flats(" + k + ", NONE)", x.flats(k, NONE), flats[k].length);
            for (int i = 0; i < flats[k].length; i++) {
                DUE.is("flats(" + k + ", " + i + ")", x.flats(k, i), flats[k][i]);
                DUE.is("sign(" + flats[k][i] + ")", x.sign(flats[k][i]), values[k][i] + 1000);
            }
            DUE.is("flats beyond", x.flats(k, flats[k].length), BEYOND);
            DUE.is("flats far beyond", x.flats(k, MOST), BEYOND);
        }
        errors(x, "flats", 0, 0, 0);
        int[][] bad = {{-1, 0}, {5, 0}, {5, NONE}, {0, -2}, {LEAST, MOST}, {MOST, LEAST}};
        for (int[] row : bad) {
            DUE.is("flats(" + row[0] + ", " + row[1] + ")", x.flats(row[0], row[1]), BAD);
        }
        DUE.is("sign(3)", x.sign(3), NO);
        DUE.is("sign(7)", x.sign(7), NO);
        for (int set : new int[] {-1, 16, LEAST, MOST}) {
            DUE.is("sign(" + set + ")", x.sign(set), BAD);
        }
        errors(x, "flats, sign", bad.length + 4, 2, 0);
        DUE.is("sign of five lines", fiveLines().sign(31), 1004);
        DUE.is("sign of four generic", fourGeneric().sign(15), 997);
        DUE.is("sign of six", made(4, 1).sign(63), 994);
    }

    private static void promises13And14() {
        // 0 and 1 give 2; 3 lies across; so the circuits of four leave out one of the first three.
        PlaneCuts x = with(3, 1, 0, 0, 0, 0, 1, 0, 0, 2, -3, 0, 0, 0, 0, 1, 0, 1, 1, 2, 0);
        int[] circuits = {7, 27, 29, 30};
        DUE.is("rings(NONE)", x.rings(NONE), 4);
        for (int i = 0; i < 4; i++) {
            DUE.is("rings(" + i + ")", x.rings(i), circuits[i]);
        }
        DUE.is("rings(4)", x.rings(4), BEYOND);
        DUE.is("rings(MOST)", x.rings(MOST), BEYOND);
        int[][] factors = {{2, -3, -1, 0, 0}, {1, 1, 0, 2, -1}, {5, 0, -1, 6, -3}, {0, 5, 1, 4, -2}};
        for (int i = 0; i < 4; i++) {
            for (int h = 0; h < 5; h++) {
                DUE.is("factor(" + i + ", " + h + ")", x.factor(i, h), factors[i][h] + 10000);
            }
        }
        errors(x, "rings, factor", 0, 0, 0);
        DUE.is("rings(-2)", x.rings(-2), BAD);
        DUE.is("rings(LEAST)", x.rings(LEAST), BAD);
        int[][] bad = {{-1, 0}, {0, -1}, {0, 5}, {4, 5}, {LEAST, 0}, {0, MOST}};
        for (int[] row : bad) {
            DUE.is("factor(" + row[0] + ", " + row[1] + ")", x.factor(row[0], row[1]), BAD);
        }
        DUE.is("factor(4, 0)", x.factor(4, 0), NO);
        DUE.is("factor(MOST, 4)", x.factor(MOST, 4), NO);
        errors(x, "rings, factor", 2 + bad.length, 2, 0);
        PlaneCuts free = made(4, 0);
        DUE.is("no circuit", free.rings(NONE), 0);
        DUE.is("no first circuit", free.rings(0), BEYOND);
        DUE.is("no factor", free.factor(0, 0), NO);
        DUE.is("nine lines", nineLines().rings(NONE), 84);
        PlaneCuts five = with(4, 1, 0, 0, 0, 0, 1, 0, 0, 0, 0, 1, 0, 0, 0, 0, 1, 3, -2, 1, -1);
        DUE.is("a circuit of five", five.rings(0), 31);
        int[] ofFive = {3, -2, 1, -1, -1};
        for (int h = 0; h < 5; h++) {
            DUE.is("factor(0, " + h + ")", five.factor(0, h), ofFive[h] + 10000);
        }
    }

    private static void promises15To17() {
        PlaneCuts x = fourGeneric();
        // t^3 - 4 t^2 + 6 t - 3
        int[] all = {-3, 6, -4, 1, 0};
        int[] three = {-1, 3, -3, 1, 0};
        int[] two = {0, 1, -2, 1, 0};
        int[] empty = {0, 0, 0, 1, 0};
        for (int j = 0; j <= 4; j++) {
            DUE.is("polynomial(15, " + j + ")", x.polynomial(15, j), all[j] + 1000);
            DUE.is("polynomial(14, " + j + ")", x.polynomial(14, j), three[j] + 1000);
            DUE.is("polynomial(9, " + j + ")", x.polynomial(9, j), two[j] + 1000);
            DUE.is("polynomial(0, " + j + ")", x.polynomial(0, j), empty[j] + 1000);
        }
        // t^3 - 3 t^2 + 3 t - 1 less the above
        int[] less = {2, -3, 1, 0};
        for (int j = 0; j <= 3; j++) {
            DUE.is("within(2, " + j + ")", x.within(2, j), less[j] + 1000);
        }
        for (int t = -9; t <= 9; t++) {
            DUE.is("value(" + t + ")", x.value(t), t * t * t - 4 * t * t + 6 * t - 3 + 100000);
        }
        errors(x, "polynomial, value, within", 0, 0, 0);
        int[][] bad = {{-1, 0}, {16, 0}, {0, -1}, {15, 5}, {LEAST, 0}, {MOST, 0}, {0, MOST}, {0, LEAST}};
        for (int[] row : bad) {
            DUE.is("polynomial(" + row[0] + ", " + row[1] + ")", x.polynomial(row[0], row[1]), BAD);
        }
        int[][] worse = {{-1, 0}, {4, 0}, {0, -1}, {0, 4}, {LEAST, 0}, {0, MOST}};
        for (int[] row : worse) {
            DUE.is("within(" + row[0] + ", " + row[1] + ")", x.within(row[0], row[1]), BAD);
        }
        for (int t : new int[] {-10, 10, LEAST, MOST}) {
            DUE.is("value(" + t + ")", x.value(t), BAD);
        }
        errors(x, "polynomial, value, within", bad.length + worse.length + 4, 0, 0);
        PlaneCuts lines = nineLines();
        DUE.is("power above D", lines.polynomial(511, 4), 1000);
        DUE.is("power D", lines.polynomial(511, 2), 1001);
        DUE.is("power 1", lines.polynomial(511, 1), 991);
        DUE.is("power 0", lines.polynomial(511, 0), 1008);
        DUE.is("within, power above", lines.within(0, 3), 1000);
        DUE.is("within, power 1", lines.within(0, 1), 1001);
        DUE.is("within, power 0", lines.within(0, 0), 999);
        DUE.is("none in four dimensions", with(4).polynomial(0, 4), 1001);
        DUE.is("none at -9", with(4).value(-9), 106561);
        DUE.is("within of four dimensions", made(4, 0).within(3, 3), 1001);
    }

    // ---- regions

    private static void promises18And19() {
        // x, y and x + y: of the eight choices the two with x, y against x + y are no regions.
        PlaneCuts x = with(2, 1, 0, 0, 0, 0, 1, 0, 0, 1, 1, 0, 0);
        int[] regions = {0, 1, 2, 5, 6, 7};
        int[] walls = {3, 5, 6, 6, 5, 3};
        DUE.is("parts(NONE)", x.parts(NONE), 6);
        for (int i = 0; i < 6; i++) {
            DUE.is("parts(" + i + ")", x.parts(i), regions[i]);
            DUE.is("walls(" + regions[i] + ")", x.walls(regions[i]), walls[i]);
        }
        DUE.is("parts(6)", x.parts(6), BEYOND);
        DUE.is("parts(MOST)", x.parts(MOST), BEYOND);
        errors(x, "parts", 0, 0, 0);
        DUE.is("parts(-2)", x.parts(-2), BAD);
        DUE.is("parts(LEAST)", x.parts(LEAST), BAD);
        DUE.is("walls(3)", x.walls(3), NO);
        DUE.is("walls(4)", x.walls(4), NO);
        for (int set : new int[] {-1, 8, LEAST, MOST}) {
            DUE.is("walls(" + set + ")", x.walls(set), BAD);
        }
        errors(x, "parts, walls", 6, 2, 0);
        DUE.is("turned", x.turns(2), 6);
        DUE.is("turned: walls(3)", x.walls(3), 3);
        DUE.is("turned: walls(0)", x.walls(0), NO);
        PlaneCuts free = made(4, 0);
        DUE.is("free", free.parts(NONE), 16);
        DUE.is("free: last", free.parts(15), 15);
        DUE.is("free: walls", free.walls(9), 15);
        PlaneCuts generic = fourGeneric();
        DUE.is("generic", generic.parts(NONE), 14);
        DUE.is("generic: (7 without the sum)", generic.walls(7), NO);
        DUE.is("generic: (the sum alone)", generic.walls(8), NO);
        DUE.is("generic: all", generic.walls(15), 7);
        DUE.is("generic: the sum and one", generic.walls(9), 14);
        DUE.is("none", with(2).parts(0), 0);
        DUE.is("none, no second", with(2).parts(1), BEYOND);
    }

    /** The greatest numbers that there can be: nine hyperplanes, each four of them independent. */
    private static void greatestNumbers() {
        PlaneCuts x = nineGeneric();
        DUE.is("circuits", x.rings(NONE), 126);
        DUE.is("the last circuit", x.rings(125), 496);
        DUE.is("flats", x.flats(3, NONE), 84);
        DUE.is("regions", x.parts(NONE), 186);
        DUE.is("the last region", x.parts(185), 511 - x.parts(0));
        DUE.is("no more regions", x.parts(186), BEYOND);
        DUE.is("base sets", x.base(4, NONE), 56);
        DUE.is("the last base set", x.base(4, 55), 449);
    }

    private static void promise20() {
        PlaneCuts x = with(2, 1, 0, 0, 0, 0, 1, 0, 0, 1, 1, 0, 0);
        int[][] due = {{0, 0, 0, 1}, {0, 7, 3, 2}, {7, 0, 3, 2}, {0, 1, 1, 1}, {0, 5, 2, 1}, {1, 6, 3, 2}, {5, 6, 2, 1}};
        for (int[] row : due) {
            DUE.is("way(" + row[0] + ", " + row[1] + ", 0)", x.way(row[0], row[1], 0), row[2]);
            DUE.is("way(" + row[0] + ", " + row[1] + ", 1)", x.way(row[0], row[1], 1), row[3]);
        }
        errors(x, "way", 0, 0, 0);
        DUE.is("from no region", x.way(3, 0, 0), NO);
        DUE.is("to no region", x.way(0, 4, 1), NO);
        int[][] bad = {{-1, 0, 0}, {0, -1, 0}, {8, 0, 0}, {0, 8, 0}, {0, 0, 2}, {0, 0, -1}, {3, 8, 0}, {3, 4, 2}, {LEAST, MOST, 0}};
        for (int[] row : bad) {
            DUE.is("way(" + row[0] + ", " + row[1] + ", " + row[2] + ")", x.way(row[0], row[1], row[2]), BAD);
        }
        errors(x, "way", bad.length, 2, 0);
        PlaneCuts free = made(4, 0);
        DUE.is("free: length", free.way(0, 15, 0), 4);
        DUE.is("free: number", free.way(0, 15, 1), 24);
        DUE.is("free: from all", free.way(15, 1, 1), 6);
        DUE.is("reduced words", made(4, 1).way(0, 63, 1), 16);
        DUE.is("none", with(3).way(0, 0, 1), 1);
    }

    // ---- modular chains, finite fields, the Orlik-Solomon algebra

    private static void promises21And22() {
        // z, x, y, x + y, x - y, x + z, y + z: only the flat of 1 to 4 is modular of rank 2.
        PlaneCuts x = with(3, 0, 0, 1, 0, 1, 0, 0, 0, 0, 1, 0, 0, 1, 1, 0, 0, 1, -1, 0, 0, 1, 0, 1, 0, 0, 1, 1, 0);
        int[] even = {1, 7, 1, 1, 0};
        for (int k = 0; k <= 4; k++) {
            DUE.is("even(" + k + ")", x.even(k), even[k]);
        }
        int[][] due = {{0, 0, 3}, {0, 1, 3}, {1, 0, 2}, {2, 0, 30}, {3, 0, 127}, {4, 0, BEYOND},
            {1, 1, 1}, {2, 1, 3}, {3, 1, 3}, {4, 1, BEYOND}, {MOST, 0, BEYOND}};
        for (int[] row : due) {
            DUE.is("chain(" + row[0] + ", " + row[1] + ")", x.chain(row[0], row[1]), row[2]);
        }
        errors(x, "chain, even", 0, 0, 0);
        int[][] bad = {{-1, 0}, {0, 2}, {0, -1}, {1, 2}, {LEAST, 0}, {9, MOST}};
        for (int[] row : bad) {
            DUE.is("chain(" + row[0] + ", " + row[1] + ")", x.chain(row[0], row[1]), BAD);
        }
        for (int k : new int[] {-1, 5, LEAST, MOST}) {
            DUE.is("even(" + k + ")", x.even(k), BAD);
        }
        errors(x, "chain, even", bad.length + 4, 0, 0);
        PlaneCuts generic = fourGeneric();
        DUE.is("generic", generic.chain(0, 0), NO);
        DUE.is("generic, far", generic.chain(9, 1), NO);
        DUE.is("generic, wrong", generic.chain(9, 2), BAD);
        errors(generic, "chain", 1, 2, 0);
        DUE.is("generic: even(2)", generic.even(2), 0);
        DUE.is("generic: even(3)", generic.even(3), 1);
        DUE.is("none: chain(0, 1)", with(2).chain(0, 1), 0);
        DUE.is("none: chain(1, 1)", with(2).chain(1, 1), BEYOND);
        DUE.is("none: even(0)", with(2).even(0), 1);
        PlaneCuts free = made(4, 0);
        DUE.is("free: chain(2, 0)", free.chain(2, 0), 3);
        DUE.is("free: chain(4, 0)", free.chain(4, 0), 15);
        DUE.is("free: even(2)", free.even(2), 6);
    }

    private static void promise23() {
        PlaneCuts x = with(2, 1, 1, 0, 0, 1, -1, 0, 0);
        int[][] due = {{2, 2, 0}, {3, 4, 1}, {5, 16, 1}, {7, 36, 1}};
        for (int[] row : due) {
            DUE.is("places(" + row[0] + ", 0)", x.places(row[0], 0), row[1]);
            DUE.is("places(" + row[0] + ", 1)", x.places(row[0], 1), row[2]);
        }
        errors(x, "places", 0, 0, 0);
        int[][] bad = {{1, 0}, {4, 0}, {6, 1}, {11, 0}, {0, 0}, {-2, 0}, {LEAST, 0}, {2, 2}, {2, -1}, {7, MOST}};
        for (int[] row : bad) {
            DUE.is("places(" + row[0] + ", " + row[1] + ")", x.places(row[0], row[1]), BAD);
        }
        errors(x, "places", bad.length, 0, 0);
        PlaneCuts three = with(3, 3, 0, -3, 0, 0, 1, 0, 0);
        DUE.is("a multiple of 3", three.places(3, 0), 0);
        DUE.is("3 is not good", three.places(3, 1), 0);
        DUE.is("2 is good", three.places(2, 1), 1);
        DUE.is("points of 2", three.places(2, 0), 2);
        DUE.is("none of 7 in four", with(4).places(7, 0), 2401);
        DUE.is("none of 2 in two", with(2).places(2, 0), 4);
        DUE.is("none is good", with(2).places(2, 1), 1);
        DUE.is("free", made(4, 0).places(7, 0), 1296);
        DUE.is("five lines", fiveLines().places(7, 0), 18);
        DUE.is("a determinant of 7", with(2, 2, 1, 0, 0, -3, 2, 0, 0).places(7, 1), 0);
    }

    private static void promise24() {
        PlaneCuts x = with(3, 1, 0, 0, 0, 0, 1, 0, 0, 0, 0, 1, 0, 1, 1, 0, 0);
        // The only circuit is 0, 1 and 3; without its lowest 1 and 3 are left.
        int[][] base = {{0}, {1, 2, 4, 8}, {3, 5, 6, 9, 12}, {7, 13}, {}};
        for (int k = 0; k <= 4; k++) {
            DUE.is("base(" + k + ", NONE)", x.base(k, NONE), base[k].length);
            for (int i = 0; i < base[k].length; i++) {
                DUE.is("base(" + k + ", " + i + ")", x.base(k, i), base[k][i]);
            }
            DUE.is("base beyond", x.base(k, base[k].length), BEYOND);
            DUE.is("base far beyond", x.base(k, MOST), BEYOND);
        }
        errors(x, "base", 0, 0, 0);
        int[][] bad = {{-1, 0}, {5, 0}, {5, NONE}, {0, -2}, {LEAST, MOST}, {MOST, LEAST}};
        for (int[] row : bad) {
            DUE.is("base(" + row[0] + ", " + row[1] + ")", x.base(row[0], row[1]), BAD);
        }
        errors(x, "base", bad.length, 0, 0);
        DUE.is("nine lines", nineLines().base(2, NONE), 8);
        DUE.is("nine lines, last", nineLines().base(2, 7), 257);
        DUE.is("free", made(4, 0).base(4, 0), 15);
        DUE.is("none", with(2).base(0, 0), 0);
    }

    private static void promise25() {
        PlaneCuts x = fiveLines();
        // e(a, b) = e(0, b) - e(0, a); the base sets of two are 3, 5, 9 and 17.
        int[][] due = {{6, -1, 1, 0, 0}, {10, -1, 0, 1, 0}, {24, 0, 0, -1, 1}, {12, 0, -1, 1, 0}, {9, 0, 0, 1, 0}, {3, 1, 0, 0, 0}};
        for (int[] row : due) {
            for (int i = 0; i < 4; i++) {
                DUE.is("form(" + row[0] + ", " + i + ")", x.form(row[0], i), row[i + 1] + 1000);
            }
        }
        for (int i = 0; i < 5; i++) {
            DUE.is("form(8, " + i + ")", x.form(8, i), i == 3 ? 1001 : 1000);
        }
        DUE.is("form(0, 0)", x.form(0, 0), 1001);
        errors(x, "form", 0, 0, 0);
        DUE.is("no fifth", x.form(6, 4), NO);
        DUE.is("no second of none", x.form(0, 1), NO);
        DUE.is("none of three", x.form(7, 0), NO);
        DUE.is("none of four", x.form(30, MOST), NO);
        int[][] bad = {{-1, 0}, {32, 0}, {31, 0}, {3, -1}, {31, -1}, {LEAST, 0}, {MOST, MOST}, {0, LEAST}};
        for (int[] row : bad) {
            DUE.is("form(" + row[0] + ", " + row[1] + ")", x.form(row[0], row[1]), BAD);
        }
        errors(x, "form", bad.length, 4, 0);
        PlaneCuts y = with(3, 1, 0, 0, 0, 0, 1, 0, 0, 0, 0, 1, 0, 1, 1, 0, 0);
        // e(1, 2, 3) = e(0, 2, 3) + e(1, 2, 0), and the last is e(0, 1, 2).
        DUE.is("form(14, 0)", y.form(14, 0), 1001);
        DUE.is("form(14, 1)", y.form(14, 1), 1001);
        DUE.is("a dependent set", y.form(11, 0), 1000);
        DUE.is("a dependent set", y.form(11, 1), 1000);
        DUE.is("a base set", y.form(13, 1), 1001);
        DUE.is("a base set", y.form(13, 0), 1000);
        PlaneCuts z = fourGeneric();
        // The circuit of four: e(1, 2, 3) = e(0, 2, 3) - e(0, 1, 3) + e(0, 1, 2); base sets 7, 11, 13.
        int[] generic = {1, -1, 1};
        for (int i = 0; i < 3; i++) {
            DUE.is("form(14, " + i + ")", z.form(14, i), generic[i] + 1000);
        }
        DUE.is("all four", z.form(15, 0), NO);
    }

    // ---- texts, undo, counts

    private static void promises26And27() {
        PlaneCuts x = new PlaneCuts();
        DUE.is("type(0)", x.type(0), 1);
        DUE.is("type(127)", x.type(127), 2);
        for (int c : new int[] {-1, 128, LEAST, MOST}) {
            DUE.is("type(" + c + ")", x.type(c), BAD);
        }
        DUE.is("told(3)", x.told(3), 2);
        DUE.is("clear()", x.clear(), 2);
        DUE.is("clear() again", x.clear(), 0);
        for (int k = 1; k <= 100; k++) {
            DUE.is("type(59)", x.type(59), k);
        }
        DUE.is("a byte too many", x.type(59), FULL);
        DUE.is("a wrong byte too many", x.type(128), BAD);
        errors(x, "type", 5, 0, 1);
        DUE.is("told(3)", x.told(3), 100);
        DUE.is("clear()", x.clear(), 100);
        DUE.is("type(1)", x.type(1), 1);
        DUE.is("no change", x.told(7), 0);
    }

    private static void promise28() {
        String[] texts = {"", " ", "   ", "d", "d ", "d2", "d2 ", "d1;", "d5;", "d0;", "d9;", "d-2;", "d 2 3;", "d2;;", ";", "d2;z", "D2;",
            "q", "p", "p1", "p1 0", "p100", "p1000;", "p10;", "p-", "p-;", "p- 1 0 0;", "p-0 1 1;", "p--1 0 0;", "p1 -1", "t-1;", "x-1;", "s-1 0;",
            "s0;", "s0 1 2;", "s0 -1;", "m-1;", "m;", "mm;", "d2;p100;", "d4;p100;", "d2;p10;d3;p10;", "p\t100;", "p100:", "d2.", "d2;  "};
        int[] due = {0, 1, 3, 1, 2, 2, 3, 1, 1, 1, 1, 1, 4, 3, 0, 3, 0,
            0, 1, 2, 4, 4, 4, 3, 2, 2, 2, 2, 2, 5, 1, 1, 1,
            2, 5, 3, 1, 1, 1, 6, 7, 13, 1, 4, 2, NONE};
        for (int k = 0; k < texts.length; k++) {
            PlaneCuts x = new PlaneCuts();
            DUE.is("reads() of '" + texts[k] + "'", read(x, texts[k]), due[k] == NONE ? 1 : -10 - due[k]);
            errors(x, "reads", 0, 0, 0);
            DUE.is("why(1)", x.why(1), NONE);
            DUE.is("the text stays", x.told(3), texts[k].length());
        }
        PlaneCuts x = new PlaneCuts();
        DUE.is("reads()", read(x, "d4;p1-2 3-3; p 0 0 0 1;s01;t0; m1;x5 ; p1111;"), 8);
        has(x, "reads()", "1 -1 0 0, 1 0 -1 0, 0 1 -1 0, 1 0 0 -1, 0 1 0 -1, 1 1 1 1");
        DUE.is("one change", x.told(7), 1);
        DUE.is("back()", x.back(), 0);
        DUE.is("told(4)", x.told(4), 3);
        DUE.is("told(5)", x.told(5), 0);
        DUE.is("read again, as the text stays", x.reads(), 8);
        DUE.is("told(4)", x.told(4), 4);
        DUE.is("p with D as it is", read(x, "p0123;"), 1);
        DUE.is("p with D as it was", read(x, "p012;"), -14);
        DUE.is("p with 0 for the others", read(x, "d2;p-3 3;p12;"), 3);
        has(x, "reads()", "-3 3, 1 2");
    }

    /** What a text cannot do, and the greatest texts. */
    private static void readsAndTheRest() {
        String[] texts = {"p000;", "p400;", "p-400;", "p100;p200;", "p100;p-300;", "t0;", "x0;", "s01;", "p100;s00;", "m4;", "m9;",
            "m3;p123;", "m3;p100;", "m3;p444;", "p100;x0;x0;", "d2;m0;d4;t0;", "p100;p010;s09;"};
        int[] index = {0, 0, 0, 1, 1, 0, 0, 0, 1, 0, 0, 1, 1, 1, 2, 3, 2};
        int[] error = {2, 2, 2, 3, 3, 2, 2, 2, 2, 2, 2, 4, 3, 2, 2, 2, 2};
        for (int k = 0; k < texts.length; k++) {
            PlaneCuts x = new PlaneCuts();
            DUE.is("reads() of " + texts[k], read(x, texts[k]), -1000 - index[k]);
            DUE.is("why(0) of " + texts[k], x.why(0), error[k]);
            DUE.is("why(1) of " + texts[k], x.why(1), index[k]);
            errors(x, "reads", 0, 0, 0);
            DUE.is("told(4)", x.told(4), 3);
            DUE.is("told(5)", x.told(5), 0);
            DUE.is("told(7)", x.told(7), 0);
        }
        PlaneCuts x = with(3, 1, 2, 3, 0, 3, 2, 1, 0);
        DUE.is("a failure after changes", read(x, "t0;s01;m2;d2;x0;"), -1004);
        has(x, "all is as it was", "1 2 3, 3 2 1");
        DUE.is("told(7)", x.told(7), 3);
        DUE.is("rank as it was", x.rank(3), 2);
        String full = "d2;".repeat(33);
        DUE.is("33 commands", read(x, full), 33);
        DUE.is("33 commands and a space", read(x, full + " "), 33);
        DUE.is("33 commands and a half", read(x, full + "d"), -110);
        DUE.is("33 commands and a wrong byte", read(x, full + "z"), -109);
        x = with(2);
        DUE.is("100 spaces", read(x, " ".repeat(100)), -110);
        DUE.is("the last of 33 fails", read(x, "d2;".repeat(32) + "x0;"), -1032);
        DUE.is("why(1)", x.why(1), 32);
    }

    private static void promise29() {
        PlaneCuts x = new PlaneCuts();
        DUE.is("why(0)", x.why(0), 0);
        DUE.is("why(1)", x.why(1), NONE);
        for (int what : new int[] {-1, 2, LEAST, MOST}) {
            DUE.is("why(" + what + ")", x.why(what), BAD);
        }
        errors(x, "why", 4, 0, 0);
        read(x, "p100;p300;");
        DUE.is("why(0)", x.why(0), 3);
        DUE.is("why(1)", x.why(1), 1);
        DUE.is("a success", read(x, "p100;"), 1);
        DUE.is("an error of the text", read(x, "p1"), -12);
        DUE.is("a refused call", x.turns(9), BAD);
        DUE.is("why(0) as before", x.why(0), 3);
        DUE.is("why(1) as before", x.why(1), 1);
        DUE.is("back()", x.back(), 0);
        DUE.is("why(0) as before", x.why(0), 3);
        read(x, "x7;");
        DUE.is("why(0) of the latest", x.why(0), 2);
        DUE.is("why(1) of the latest", x.why(1), 0);
    }

    private static void promise30() {
        PlaneCuts x = new PlaneCuts();
        x.space(4);
        x.makes(3);
        x.turns(0);
        x.drops(8);
        x.swaps(1, 2);
        x.plane(1, 2, 3, 3);
        DUE.is("six changes", x.told(7), 6);
        DUE.is("a seventh", read(x, "d2;"), 1);
        DUE.is("six are kept", x.told(7), 6);
        DUE.is("back()", x.back(), 5);
        DUE.is("D is back", x.told(4), 4);
        DUE.is("told(5)", x.told(5), 9);
        DUE.is("plane is back", x.of(8, 3), 13);
        DUE.is("back()", x.back(), 4);
        DUE.is("told(5)", x.told(5), 8);
        DUE.is("back()", x.back(), 3);
        has(x, "back()", "-1 0 0 0, 0 1 0 0, 0 0 1 0, 0 0 0 1, 1 -1 0 0, 1 1 0 0, 1 0 -1 0, 1 0 1 0");
        DUE.is("back()", x.back(), 2);
        DUE.is("parts", x.parts(NONE), 80);
        DUE.is("back()", x.back(), 1);
        DUE.is("of(0, 0)", x.of(0, 0), 11);
        DUE.is("back()", x.back(), 0);
        DUE.is("told(4)", x.told(4), 4);
        DUE.is("told(5)", x.told(5), 0);
        DUE.is("the first is not kept", x.back(), NO);
        DUE.is("told(4)", x.told(4), 4);
        errors(x, "back", 0, 1, 0);
        x.makes(0);
        x.turns(1);
        x.turns(9);
        DUE.is("a refused call is no change", x.told(7), 2);
        DUE.is("back()", x.back(), 1);
        x.drops(0);
        DUE.is("a change after back()", x.told(7), 2);
        DUE.is("back()", x.back(), 1);
        has(x, "back()", "1 0 0 0, 0 1 0 0, 0 0 1 0, 0 0 0 1");
        DUE.is("the text stays", x.told(3), 3);
    }

    private static void promise31() {
        PlaneCuts x = made(3, 1);
        DUE.is("D", x.told(4), 3);
        DUE.is("hyperplanes", x.told(5), 3);
        DUE.is("rank", x.told(6), 2);
        DUE.is("changes", x.told(7), 2);
        for (int what : new int[] {-1, 8, LEAST, MOST}) {
            DUE.is("told(" + what + ")", x.told(what), BAD);
        }
        DUE.is("BAD", x.told(0), 4);
        x.sign(3);
        x.plane(1, -1, 0, 0);
        x.walls(5);
        DUE.is("NO", x.told(1), 3);
        x.flats(2, 7);
        x.parts(99);
        x.why(1);
        DUE.is("-5 and NONE are no errors", x.told(0) + x.told(1) + x.told(2), 7);
        x.makes(3);
        x.plane(1, 2, 3, 0);
        DUE.is("FULL", x.told(2), 1);
        x.type(65);
        DUE.is("bytes", x.told(3), 1);
    }

    private static void promise32() {
        DUE.is("digest() of a new object", new PlaneCuts().digest(), mixed(0, 0, 0, 0, 3, 0, 0, 0, 0, -1,
                1, 0, 0, 0, 0, 1000, 1000, 1000, 1001, 1000, 0, 1, 1, 0, 0, 0, 0));
        PlaneCuts x = fiveLines();
        x.turns(9);
        x.sign(3);
        x.drops(3);
        x.type(120);
        x.type(57);
        x.type(59);
        x.reads();
        long due = mixed(1, 1, 0, 3, 2, 4, 2, 6, 2, 0, 11, 10, 10, 11, 11, 11, 11, 12,
                1, 4, 1, 0, 0, 1003, 996, 1001, 1000, 1000, 4, 8, 1, 4, 3, 0, 0);
        DUE.is("digest()", x.digest(), due);
        DUE.is("digest() changes nothing", x.digest(), due);
    }
}
