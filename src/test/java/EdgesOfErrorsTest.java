import java.util.function.Supplier;

/** The boundary cases of the document's description, ERRORS, each sentence with a test of its own. */
public final class EdgesOfErrorsTest extends Bench {
    private static final Due DUE = new Due("EdgesOfErrorsTest");

    public static void main(String[] args) {
        codes();
        badRatherThanNo();
        badRatherThanFull();
        noRatherThanFull();
        countedByEachMethod();
        severalTimesCounted();
        nothingChangedWithoutPlanes();
        nothingChangedWithNine();
        nothingChangedWithSixChanges();
        noneIsNoError();
        noneOnlyWithoutError();
        numberedFromZero();
        negativeSets();
        setsBeyondTheHyperplanes();
        setsAfterChanges();
        ascendingLists();
        indexTooGreat();
        indexTooGreatIsNotCounted();
        DUE.end();
    }

    private static void codes() {
        DUE.sentence("The error codes are BAD (-2), NO (-3), FULL (-4); NONE (-1)");
        DUE.is("BAD", PlaneCuts.BAD, -2);
        DUE.is("NO", PlaneCuts.NO, -3);
        DUE.is("FULL", PlaneCuts.FULL, -4);
        DUE.is("NONE", PlaneCuts.NONE, -1);
    }

    // ---- several errors

    private static void badRatherThanNo() {
        DUE.sentence("If several errors apply, BAD is returned rather than NO");
        Supplier<PlaneCuts> generic = Bench::fourGeneric;
        refused(DUE, "plane: the same, but for one beyond D", generic, x -> x.plane(1, 0, 0, 1), BAD);
        refused(DUE, "plane: the same, but out of range", generic, x -> x.plane(4, 0, 0, 0), BAD);
        refused(DUE, "sign: no set, so no flat either", generic, x -> x.sign(16), BAD);
        refused(DUE, "factor: no circuit and no hyperplane", generic, x -> x.factor(1, 4), BAD);
        refused(DUE, "factor: no circuit and a hyperplane below 0", generic, x -> x.factor(1, -1), BAD);
        refused(DUE, "walls: no set, so no region either", generic, x -> x.walls(-1), BAD);
        refused(DUE, "way: from no region to no set", generic, x -> x.way(7, 16, 0), BAD);
        refused(DUE, "way: from no set to no region", generic, x -> x.way(-1, 8, 0), BAD);
        refused(DUE, "way: from no region with a wrong what", generic, x -> x.way(7, 0, 2), BAD);
        refused(DUE, "way: to no region with a wrong what", generic, x -> x.way(0, 8, -1), BAD);
        refused(DUE, "chain: there is none, and i is negative", generic, x -> x.chain(-1, 0), BAD);
        refused(DUE, "chain: there is none, and what is wrong", generic, x -> x.chain(1, 2), BAD);
        refused(DUE, "chain: there is none, and what is wrong for i = 0", generic, x -> x.chain(0, -1), BAD);
        refused(DUE, "form: no such base set, and no set", generic, x -> x.form(16, 99), BAD);
        refused(DUE, "form: no such base set, and too many hyperplanes", () -> made(3, 2), x -> x.form(31, 99), BAD);
        refused(DUE, "form: no base sets of four, and i is negative", generic, x -> x.form(15, -1), BAD);
    }

    private static void badRatherThanFull() {
        DUE.sentence("If several errors apply, BAD is returned rather than NO, and NO rather than FULL: BAD rather than FULL");
        refused(DUE, "plane: a tenth out of range", () -> made(3, 3), x -> x.plane(1, 2, 4, 0), BAD);
        refused(DUE, "plane: a tenth of zeros", () -> made(3, 3), x -> x.plane(0, 0, 0, 0), BAD);
        refused(DUE, "plane: a tenth with one beyond D", () -> made(3, 3), x -> x.plane(1, 2, 3, 1), BAD);
        refused(DUE, "type: byte 101 above 127", EdgesOfErrorsTest::fullText, x -> x.type(128), BAD);
        refused(DUE, "type: byte 101 below 0", EdgesOfErrorsTest::fullText, x -> x.type(-1), BAD);
    }

    private static void noRatherThanFull() {
        DUE.sentence("NO rather than FULL");
        refused(DUE, "plane: a tenth that is the first", () -> made(3, 3), x -> x.plane(1, 0, 0, 0), NO);
        refused(DUE, "plane: a tenth that is the ninth", () -> made(3, 3), x -> x.plane(0, -3, -3, 0), NO);
        refused(DUE, "plane: a tenth of its own", () -> made(3, 3), x -> x.plane(1, 1, 1, 0), FULL);
    }

    private static PlaneCuts fullText() {
        PlaneCuts x = made(2, 0);
        types(x, "d2;".repeat(32) + "p31;");
        return x;
    }

    // ---- counts

    private static void countedByEachMethod() {
        DUE.sentence("How many times each of them was returned by any method is counted");
        Supplier<PlaneCuts> few = Bench::fourGeneric;
        refused(DUE, "space", few, x -> x.space(5), BAD);
        refused(DUE, "plane", few, x -> x.plane(0, 0, 0, 0), BAD);
        refused(DUE, "plane", few, x -> x.plane(2, 2, 2, 0), NO);
        refused(DUE, "plane", Bench::nineLines, x -> x.plane(3, 1, 0, 0), FULL);
        refused(DUE, "turns", few, x -> x.turns(4), BAD);
        refused(DUE, "drops", few, x -> x.drops(4), BAD);
        refused(DUE, "swaps", few, x -> x.swaps(1, 1), BAD);
        refused(DUE, "makes", few, x -> x.makes(4), BAD);
        refused(DUE, "of", few, x -> x.of(0, 3), BAD);
        refused(DUE, "rank", few, x -> x.rank(16), BAD);
        refused(DUE, "closed", few, x -> x.closed(16), BAD);
        refused(DUE, "flats", few, x -> x.flats(5, NONE), BAD);
        refused(DUE, "sign", few, x -> x.sign(16), BAD);
        refused(DUE, "sign", few, x -> x.sign(7), NO);
        refused(DUE, "rings", few, x -> x.rings(-2), BAD);
        refused(DUE, "factor", few, x -> x.factor(0, 4), BAD);
        refused(DUE, "factor", few, x -> x.factor(1, 0), NO);
        refused(DUE, "polynomial", few, x -> x.polynomial(15, 5), BAD);
        refused(DUE, "value", few, x -> x.value(10), BAD);
        refused(DUE, "within", few, x -> x.within(0, 4), BAD);
        refused(DUE, "parts", few, x -> x.parts(-2), BAD);
        refused(DUE, "walls", few, x -> x.walls(16), BAD);
        refused(DUE, "walls", few, x -> x.walls(7), NO);
        refused(DUE, "way", few, x -> x.way(0, 0, 2), BAD);
        refused(DUE, "way", few, x -> x.way(7, 0, 0), NO);
        refused(DUE, "chain", few, x -> x.chain(-1, 0), BAD);
        refused(DUE, "chain", few, x -> x.chain(0, 0), NO);
        refused(DUE, "even", few, x -> x.even(5), BAD);
        refused(DUE, "places", few, x -> x.places(11, 0), BAD);
        refused(DUE, "base", few, x -> x.base(5, NONE), BAD);
        refused(DUE, "form", few, x -> x.form(16, 0), BAD);
        refused(DUE, "form", few, x -> x.form(15, 0), NO);
        refused(DUE, "type", few, x -> x.type(128), BAD);
        refused(DUE, "type", EdgesOfErrorsTest::fullText, x -> x.type(0), FULL);
        refused(DUE, "why", few, x -> x.why(2), BAD);
        refused(DUE, "back", PlaneCuts::new, PlaneCuts::back, NO);
        refused(DUE, "told", few, x -> x.told(8), BAD);
    }

    private static void severalTimesCounted() {
        DUE.sentence("How many times each of them was returned is counted: more than once, and apart");
        PlaneCuts x = new PlaneCuts();
        for (int k = 1; k <= 80; k++) {
            x.told(-k);
            DUE.is("told(0)", x.told(0), k);
        }
        for (int k = 1; k <= 80; k++) {
            x.back();
            DUE.is("told(1)", x.told(1), k);
        }
        DUE.is("apart", counts(x), "80 80 0");
        x.makes(3);
        for (int k = 1; k <= 50; k++) {
            x.plane(1, 2, 3, 0);
            DUE.is("told(2)", x.told(2), k);
        }
        DUE.is("all three", counts(x), "80 80 50");
        x.back();
        x.clear();
        x.space(2);
        DUE.is("neither back() nor clear() nor space() takes counts away", counts(x), "80 80 50");
    }

    // ---- nothing is changed

    private static void nothingChangedWithoutPlanes() {
        DUE.sentence("otherwise a call that returns an error changes nothing: of a new object");
        Supplier<PlaneCuts> none = PlaneCuts::new;
        refused(DUE, "space(1)", none, x -> x.space(1), BAD);
        refused(DUE, "plane(0, 0, 0, 0)", none, x -> x.plane(0, 0, 0, 0), BAD);
        refused(DUE, "turns(0)", none, x -> x.turns(0), BAD);
        refused(DUE, "drops(0)", none, x -> x.drops(0), BAD);
        refused(DUE, "swaps(0, 1)", none, x -> x.swaps(0, 1), BAD);
        refused(DUE, "makes(4)", none, x -> x.makes(4), BAD);
        refused(DUE, "of(0, 0)", none, x -> x.of(0, 0), BAD);
        refused(DUE, "rank(1)", none, x -> x.rank(1), BAD);
        refused(DUE, "factor(0, 0)", none, x -> x.factor(0, 0), BAD);
        refused(DUE, "within(0, 0)", none, x -> x.within(0, 0), BAD);
        refused(DUE, "walls(1)", none, x -> x.walls(1), BAD);
        refused(DUE, "form(0, 1)", none, x -> x.form(0, 1), NO);
        refused(DUE, "type(-1)", none, x -> x.type(-1), BAD);
        refused(DUE, "back()", none, PlaneCuts::back, NO);
        refused(DUE, "told(8)", none, x -> x.told(8), BAD);
    }

    private static void nothingChangedWithNine() {
        DUE.sentence("otherwise a call that returns an error changes nothing: of nine hyperplanes");
        Supplier<PlaneCuts> nine = Bench::nineGeneric;
        refused(DUE, "space(5)", nine, x -> x.space(5), BAD);
        refused(DUE, "plane, a tenth", nine, x -> x.plane(1, 1, 1, 1), FULL);
        refused(DUE, "plane, the ninth", nine, x -> x.plane(-1, -2, 2, -3), NO);
        refused(DUE, "plane, out of range", nine, x -> x.plane(1, 1, 1, -4), BAD);
        refused(DUE, "turns(9)", nine, x -> x.turns(9), BAD);
        refused(DUE, "drops(9)", nine, x -> x.drops(9), BAD);
        refused(DUE, "swaps(0, 9)", nine, x -> x.swaps(0, 9), BAD);
        refused(DUE, "swaps(9, 0)", nine, x -> x.swaps(9, 0), BAD);
        refused(DUE, "swaps(8, 8)", nine, x -> x.swaps(8, 8), BAD);
        refused(DUE, "makes(-1)", nine, x -> x.makes(-1), BAD);
        refused(DUE, "sign(512)", nine, x -> x.sign(512), BAD);
        refused(DUE, "sign(15)", nine, x -> x.sign(15), NO);
        refused(DUE, "factor(126, 0)", nine, x -> x.factor(126, 0), NO);
        refused(DUE, "chain(0, 0)", nine, x -> x.chain(0, 0), NO);
        refused(DUE, "form(31, 0)", nine, x -> x.form(31, 0), BAD);
        refused(DUE, "form(15, 56)", nine, x -> x.form(15, 56), NO);
        refused(DUE, "way(0, 512, 0)", nine, x -> x.way(0, 512, 0), BAD);
    }

    /** A failed command to tell of, six changes kept, and a text. */
    private static PlaneCuts busy() {
        PlaneCuts x = new PlaneCuts();
        read(x, "p100;p-200;");
        x.plane(1, 2, 3, 0);
        x.plane(0, 1, 0, 0);
        x.plane(0, -3, 2, 0);
        x.turns(0);
        x.swaps(0, 2);
        x.drops(1);
        x.plane(1, 1, 1, 0);
        x.clear();
        types(x, "d4;p12-3 0;");
        return x;
    }

    private static void nothingChangedWithSixChanges() {
        DUE.sentence("otherwise a call that returns an error changes nothing: neither undo, text nor the latest failure");
        Supplier<PlaneCuts> busy = EdgesOfErrorsTest::busy;
        refused(DUE, "space", busy, x -> x.space(LEAST), BAD);
        refused(DUE, "plane", busy, x -> x.plane(MOST, 0, 0, 0), BAD);
        refused(DUE, "plane", busy, x -> x.plane(3, 3, 3, 0), NO);
        refused(DUE, "turns", busy, x -> x.turns(3), BAD);
        refused(DUE, "drops", busy, x -> x.drops(3), BAD);
        refused(DUE, "swaps", busy, x -> x.swaps(2, 3), BAD);
        refused(DUE, "makes", busy, x -> x.makes(4), BAD);
        refused(DUE, "sign", busy, x -> x.sign(8), BAD);
        refused(DUE, "type", busy, x -> x.type(128), BAD);
        refused(DUE, "why", busy, x -> x.why(2), BAD);
        refused(DUE, "told", busy, x -> x.told(-1), BAD);
        refused(DUE, "factor", busy, x -> x.factor(0, 0), NO);
    }

    // ---- NONE, numbers, sets, lists

    private static void noneIsNoError() {
        DUE.sentence("NONE (-1) means \"there is none\", or asks for a number of things");
        PlaneCuts x = fourGeneric();
        DUE.is("why(1)", x.why(1), NONE);
        DUE.is("flats(1, NONE)", x.flats(1, NONE), 4);
        DUE.is("rings(NONE)", x.rings(NONE), 1);
        DUE.is("parts(NONE)", x.parts(NONE), 14);
        DUE.is("base(3, NONE)", x.base(3, NONE), 3);
        DUE.is("no error", counts(x), "0 0 0");
    }

    private static void noneOnlyWithoutError() {
        DUE.sentence("NONE is returned only if no error applies");
        PlaneCuts x = new PlaneCuts();
        DUE.is("why(2) without a failure", x.why(2), BAD);
        DUE.is("why(-1) without a failure", x.why(-1), BAD);
        DUE.is("flats(5, NONE)", x.flats(5, NONE), BAD);
        DUE.is("flats(-1, NONE)", x.flats(-1, NONE), BAD);
        DUE.is("base(5, NONE)", x.base(5, NONE), BAD);
        DUE.is("base(-1, NONE)", x.base(-1, NONE), BAD);
        DUE.is("counted", counts(x), "6 0 0");
    }

    private static void numberedFromZero() {
        DUE.sentence("Everything is numbered from 0");
        PlaneCuts x = new PlaneCuts();
        DUE.is("the first hyperplane", x.plane(3, -2, 1, 0), 0);
        DUE.is("its first coefficient", x.of(0, 0), 13);
        DUE.is("its last coefficient", x.of(0, 2), 11);
        DUE.is("the set of the first hyperplane", x.rank(1), 1);
        DUE.is("the first flat of rank 0", x.flats(0, 0), 0);
        DUE.is("the first flat of rank 1", x.flats(1, 0), 1);
        DUE.is("the first region", x.parts(0), 0);
        DUE.is("the first base set of one", x.base(1, 0), 1);
        DUE.is("the first byte is not allowed", read(x, "?"), -10);
        DUE.is("the first command fails", read(x, "t1;"), -1000);
        DUE.is("its index", x.why(1), 0);
        x.plane(0, 1, 0, 0);
        x.plane(3, -1, 1, 0);
        DUE.is("the first circuit", x.rings(0), 7);
        DUE.is("a factor of it", x.factor(0, 0), 10001);
    }

    /** Every method with a set as an argument; BAD must be the answer of each. */
    private static void allBad(PlaneCuts x, int set) {
        DUE.is("rank(" + set + ")", x.rank(set), BAD);
        DUE.is("closed(" + set + ")", x.closed(set), BAD);
        DUE.is("sign(" + set + ")", x.sign(set), BAD);
        DUE.is("polynomial(" + set + ", 0)", x.polynomial(set, 0), BAD);
        DUE.is("walls(" + set + ")", x.walls(set), BAD);
        DUE.is("way(" + set + ", a region, 0)", x.way(set, x.parts(0), 0), BAD);
        DUE.is("way(a region, " + set + ", 1)", x.way(x.parts(0), set, 1), BAD);
        DUE.is("form(" + set + ", 0)", x.form(set, 0), BAD);
    }

    private static void negativeSets() {
        DUE.sentence("such a set is BAD as an argument if it is negative");
        for (int set : new int[] {-1, -2, -512, LEAST, LEAST + 1, LEAST | 1}) {
            allBad(new PlaneCuts(), set);
            allBad(fourGeneric(), set);
            allBad(nineGeneric(), set);
        }
    }

    private static void setsBeyondTheHyperplanes() {
        DUE.sentence("such a set is BAD as an argument if it has a bit that is not a hyperplane");
        for (int many = 0; many <= 9; many++) {
            PlaneCuts x = firstOfNine(many);
            int all = (1 << many) - 1;
            String counted = counts(x);
            DUE.is("all of " + many + ": rank", x.rank(all), Math.min(many, 4));
            DUE.is("all of " + many + ": closed", x.closed(all), all);
            DUE.holds("all of " + many + ": sign", x.sign(all) >= 900);
            DUE.is("all of " + many + ": polynomial", x.polynomial(all, 4), 1001);
            if (many <= 4) {
                DUE.is("all of " + many + ": walls", x.walls(all), all);
                DUE.is("all of " + many + ": way", x.way(all, all, 0), 0);
                DUE.is("all of " + many + ": form", x.form(all, 0), 1001);
            }
            DUE.is("no error", counts(x), counted);
            allBad(x, all + 1);
            allBad(x, all + 1 | 1);
            allBad(x, 2 * all + 1 | 1 << many);
            allBad(x, 1 << 9 | all);
            allBad(x, 1 << 30);
            allBad(x, MOST);
        }
    }

    private static void setsAfterChanges() {
        DUE.sentence("such a set is BAD as an argument if it has a bit that is not a hyperplane: any more");
        PlaneCuts x = made(4, 0);
        DUE.is("rank(8)", x.rank(8), 1);
        x.drops(0);
        allBad(x, 8);
        DUE.is("rank(7)", x.rank(7), 3);
        x.back();
        DUE.is("rank(8) after back()", x.rank(8), 1);
        x.space(4);
        allBad(x, 1);
        x.makes(1);
        DUE.is("rank(63)", x.rank(63), 3);
        allBad(x, 64);
    }

    private static void ascendingLists() {
        DUE.sentence("Lists of sets are in ascending order of these numbers, if nothing else is told");
        PlaneCuts x = nineGeneric();
        int asked = 0;
        for (int k = 0; k <= 4; k++) {
            asked += ascending("flats", x.flats(k, NONE), flatsOf(x, k));
        }
        DUE.is("flats", asked, 1 + 9 + 36 + 84 + 1);
        int[] regions = new int[186];
        for (int i = 0; i < 186; i++) {
            regions[i] = x.parts(i);
        }
        DUE.is("regions", ascending("parts", x.parts(NONE), regions), 186);
        PlaneCuts y = nineGeneric();
        asked = 0;
        for (int k = 0; k <= 4; k++) {
            asked += ascending("base", y.base(k, NONE), baseOf(y, k));
        }
        DUE.is("base sets", asked, 1 + 9 + 36 + 84 + 56);
    }

    private static int[] flatsOf(PlaneCuts x, int k) {
        int[] sets = new int[x.flats(k, NONE)];
        for (int i = 0; i < sets.length; i++) {
            sets[i] = x.flats(k, i);
        }
        return sets;
    }

    private static int[] baseOf(PlaneCuts x, int k) {
        int[] sets = new int[x.base(k, NONE)];
        for (int i = 0; i < sets.length; i++) {
            sets[i] = x.base(k, i);
        }
        return sets;
    }

    private static int ascending(String name, int many, int[] sets) {
        DUE.is(name + ": number", sets.length, many);
        for (int i = 1; i < sets.length; i++) {
            DUE.holds(name + " ascends at " + i, sets[i - 1] >= 0 && sets[i - 1] < sets[i]);
        }
        return sets.length;
    }

    private static void indexTooGreat() {
        DUE.sentence("The methods flats(), rings(), parts(), base() and chain() return -5 for an index that is too great");
        PlaneCuts x = nineGeneric();
        DUE.is("flats, last", x.flats(3, 83), 448);
        DUE.is("flats, next", x.flats(3, 84), BEYOND);
        DUE.is("flats, far", x.flats(3, MOST), BEYOND);
        DUE.is("rings, last", x.rings(125), 496);
        DUE.is("rings, next", x.rings(126), BEYOND);
        DUE.is("rings, far", x.rings(MOST), BEYOND);
        DUE.holds("parts, last", x.parts(185) > x.parts(184));
        DUE.is("parts, next", x.parts(186), BEYOND);
        DUE.is("parts, far", x.parts(MOST), BEYOND);
        DUE.is("base, last", x.base(4, 55), 449);
        DUE.is("base, next", x.base(4, 56), BEYOND);
        DUE.is("base, far", x.base(4, MOST), BEYOND);
        PlaneCuts free = made(4, 0);
        DUE.is("chain, last", free.chain(4, 0), 15);
        DUE.is("chain, next", free.chain(5, 0), BEYOND);
        DUE.is("chain, next step", free.chain(5, 1), BEYOND);
        DUE.is("chain, far", free.chain(MOST, 1), BEYOND);
    }

    private static void indexTooGreatIsNotCounted() {
        DUE.sentence("return -5 for an index that is too great; this is not an error");
        PlaneCuts x = new PlaneCuts();
        DUE.is("flats", x.flats(4, 0), BEYOND);
        DUE.is("rings", x.rings(0), BEYOND);
        DUE.is("parts", x.parts(1), BEYOND);
        DUE.is("base", x.base(4, 0), BEYOND);
        DUE.is("chain", x.chain(1, 0), BEYOND);
        DUE.is("not counted", counts(x), "0 0 0");
    }
}
