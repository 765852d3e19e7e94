import java.util.ArrayDeque;
import java.util.List;
import java.util.function.Supplier;
import java.util.function.ToIntFunction;

/** The boundary cases of ARRANGEMENTS and UNDO and of the promises 1 to 8 and 30, each sentence with a test of its own. */
public final class EdgesOfChangesTest extends Bench {
    private static final Due DUE = new Due("EdgesOfChangesTest");
    /** Of answersOf(..). */
    private static final int PARTS = 14;

    public static void main(String[] args) {
        arrangements();
        newObject();
        space();
        plane();
        turns();
        drops();
        swaps();
        makes();
        of();
        undo();
        back();
        askedBeforeAndAfter();
        lastCall();
        DUE.end();
    }

    // ---- ARRANGEMENTS

    private static void arrangements() {
        threeAtFirst();
        upToNine();
        notTheSamePoints();
        allIsTheSetOfAll();
    }

    private static void threeAtFirst() {
        DUE.sentence("The space has D dimensions, 2 to 4 (3 at first)");
        DUE.is("at first", new PlaneCuts().told(4), 3);
        for (int n = 2; n <= 4; n++) {
            DUE.is("space(" + n + ")", with(n).told(4), n);
        }
        DUE.is("below", with(2).space(1), BAD);
        DUE.is("above", with(4).space(5), BAD);
    }

    private static void upToNine() {
        DUE.sentence("There are up to nine hyperplanes, numbered as they come (none at first)");
        PlaneCuts x = new PlaneCuts();
        DUE.is("none at first", x.told(5), 0);
        for (int i = 0; i < 9; i++) {
            DUE.is("the next", x.plane(1, i % 3, i / 3, 0), i);
            DUE.is("so many", x.told(5), i + 1);
        }
        DUE.is("a tenth", x.plane(1, 3, 3, 0), FULL);
        DUE.is("still nine", x.told(5), 9);
        DUE.is("as they came", rows(x), "1 0 0, 1 1 0, 1 2 0, 1 0 1, 1 1 1, 1 2 1, 1 0 2, 1 1 2, 1 2 2");
        x.drops(4);
        DUE.is("a ninth again", x.plane(1, 3, 3, 0), 8);
        DUE.is("a tenth again", x.plane(1, 1, 1, 0), FULL);
    }

    private static void notTheSamePoints() {
        DUE.sentence("No two hyperplanes are the same set of points");
        for (int times : new int[] {-3, -2, -1, 1, 2, 3}) {
            PlaneCuts x = with(4, 1, 0, 0, 0, 0, 0, 0, 1, 1, -1, 1, -1);
            DUE.is("the first times " + times, x.plane(times, 0, 0, 0), NO);
            DUE.is("the second times " + times, x.plane(0, 0, 0, times), NO);
            DUE.is("the third times " + times, x.plane(times, -times, times, -times), NO);
            DUE.is("not quite the third", x.plane(times, -times, times, times), 3);
        }
        PlaneCuts y = with(2, 2, 3, 0, 0);
        DUE.is("(-2 -3)", y.plane(-2, -3, 0, 0), NO);
        DUE.is("(3 2)", y.plane(3, 2, 0, 0), 1);
        DUE.is("(2 -3)", y.plane(2, -3, 0, 0), 2);
        DUE.is("(1 1)", y.plane(1, 1, 0, 0), 3);
    }

    private static void allIsTheSetOfAll() {
        DUE.sentence("\"All\" means the set of all hyperplanes: of none, and of nine");
        DUE.is("rank of none", with(4).told(6), 0);
        DUE.is("value of none", with(4).value(2), 100016);
        DUE.is("rank of nine lines", nineLines().told(6), 2);
        DUE.is("value of nine lines", nineLines().value(1), 100000);
    }

    // ---- promises 1 and 2

    private static void newObject() {
        DUE.sentence("Promise 1: Creates an arrangement without hyperplanes in three dimensions");
        PlaneCuts x = new PlaneCuts();
        DUE.is("D", x.told(4), 3);
        DUE.is("hyperplanes", x.told(5), 0);
        DUE.is("rank", x.told(6), 0);
        DUE.is("of", x.of(0, 0), BAD);
        DUE.sentence("Promise 1: the text is empty");
        DUE.is("told(3)", new PlaneCuts().told(3), 0);
        DUE.is("clear()", new PlaneCuts().clear(), 0);
        DUE.is("reads()", new PlaneCuts().reads(), -10);
        DUE.sentence("Promise 1: no error was returned and no change made");
        DUE.is("counts", counts(new PlaneCuts()), "0 0 0");
        DUE.is("changes", new PlaneCuts().told(7), 0);
        DUE.is("back()", new PlaneCuts().back(), NO);
        DUE.is("why(0)", new PlaneCuts().why(0), 0);
        DUE.is("why(1)", new PlaneCuts().why(1), NONE);
    }

    private static void space() {
        DUE.sentence("Promise 2: Sets D");
        for (int n = 2; n <= 4; n++) {
            PlaneCuts x = new PlaneCuts();
            DUE.is("space(" + n + ")", x.space(n), 3);
            DUE.is("D", x.told(4), n);
            DUE.is("as many coefficients", x.plane(1, 0, 0, 0), 0);
            DUE.is("the last", x.of(0, n - 1), 10);
            DUE.is("none behind it", x.of(0, n), BAD);
        }
        DUE.sentence("Promise 2: removes all hyperplanes");
        PlaneCuts none = new PlaneCuts();
        none.space(3);
        DUE.is("of none", none.told(5), 0);
        PlaneCuts nine = made(3, 3);
        nine.space(3);
        DUE.is("of nine", nine.told(5), 0);
        DUE.is("rank", nine.told(6), 0);
        DUE.is("regions", nine.parts(NONE), 1);
        DUE.is("the first again", nine.plane(1, 0, 0, 0), 0);
        DUE.sentence("Promise 2: Returns the previous D");
        PlaneCuts x = new PlaneCuts();
        int previous = 3;
        for (int n : new int[] {3, 4, 4, 2, 2, 4, 3, 2, 3}) {
            DUE.is("space(" + n + ")", x.space(n), previous);
            previous = n;
        }
        DUE.sentence("Promise 2: BAD if n is out of range");
        for (int n : new int[] {1, 5, 0, -1, -2, 6, LEAST, MOST}) {
            refused(DUE, "space(" + n + ")", () -> made(4, 1), y -> y.space(n), BAD);
            refused(DUE, "space(" + n + ")", PlaneCuts::new, y -> y.space(n), BAD);
        }
    }

    // ---- promise 3

    private static void plane() {
        DUE.sentence("Promise 3: Returns the number of the hyperplane");
        PlaneCuts x = new PlaneCuts();
        DUE.is("the first", x.plane(1, 0, 0, 0), 0);
        DUE.is("the second", x.plane(0, 1, 0, 0), 1);
        x.drops(0);
        DUE.is("after one was dropped", x.plane(0, 0, 1, 0), 1);
        x.makes(2);
        DUE.is("after six were made", x.plane(0, 0, 1, 0), 6);
        coefficientsInRange();
        coefficientsOutOfRange();
        DUE.sentence("Promise 3: BAD if all are 0");
        for (int d = 2; d <= 4; d++) {
            int dimensions = d;
            refused(DUE, "plane(0, 0, 0, 0)", () -> with(dimensions), y -> y.plane(0, 0, 0, 0), BAD);
        }
        beyondD();
        DUE.sentence("Promise 3: NO if the same hyperplane is there already, perhaps with other coefficients");
        Supplier<PlaneCuts> one = () -> with(3, 1, -1, 0, 0);
        refused(DUE, "the same", one, y -> y.plane(1, -1, 0, 0), NO);
        refused(DUE, "negated", one, y -> y.plane(-1, 1, 0, 0), NO);
        refused(DUE, "three times", one, y -> y.plane(3, -3, 0, 0), NO);
        refused(DUE, "less three times", one, y -> y.plane(-3, 3, 0, 0), NO);
        refused(DUE, "of which it is a part", () -> with(2, -2, 2, 0, 0), y -> y.plane(3, -3, 0, 0), NO);
        DUE.is("no more after it was dropped", droppedFirst().plane(1, -1, 0, 0), 1);
        DUE.sentence("Promise 3: FULL if there are nine");
        PlaneCuts eight = firstOfNine(8);
        DUE.is("a ninth", eight.plane(1, 1, 1, 1), 8);
        refused(DUE, "a tenth", () -> nineGeneric(), y -> y.plane(1, 1, 1, 1), FULL);
        refused(DUE, "a tenth line", () -> nineLines(), y -> y.plane(3, 1, 0, 0), FULL);
    }

    private static PlaneCuts droppedFirst() {
        PlaneCuts x = with(3, 1, -1, 0, 0, 0, 0, 1, 0);
        x.drops(0);
        return x;
    }

    private static void coefficientsInRange() {
        DUE.sentence("Promise 3: a coefficient, -3 to 3");
        for (int v = -3; v <= 3; v++) {
            DUE.is("a", with(4).plane(v, 1, 1, 1), 0);
            DUE.is("b", with(4).plane(1, v, 1, 1), 0);
            DUE.is("c", with(4).plane(1, 1, v, 1), 0);
            DUE.is("e", with(4).plane(1, 1, 1, v), 0);
            if (v != 0) {
                DUE.is("a alone", with(2).plane(v, 0, 0, 0), 0);
                DUE.is("b alone", with(2).plane(0, v, 0, 0), 0);
                DUE.is("c alone", with(3).plane(0, 0, v, 0), 0);
                DUE.is("e alone", with(4).plane(0, 0, 0, v), 0);
            }
        }
        DUE.is("least and greatest are held", rows(with(4, -3, 3, -3, 3)), "-3 3 -3 3");
    }

    private static void coefficientsOutOfRange() {
        DUE.sentence("Promise 3: BAD if a coefficient is out of range");
        for (int v : new int[] {-4, 4, -5, 9, LEAST, MOST}) {
            refused(DUE, "a = " + v, () -> with(4), y -> y.plane(v, 1, 1, 1), BAD);
            refused(DUE, "b = " + v, () -> with(4), y -> y.plane(1, v, 1, 1), BAD);
            refused(DUE, "c = " + v, () -> with(4), y -> y.plane(1, 1, v, 1), BAD);
            refused(DUE, "e = " + v, () -> with(4), y -> y.plane(1, 1, 1, v), BAD);
            refused(DUE, "c = " + v + " of two", () -> with(2), y -> y.plane(1, 1, v, 0), BAD);
            refused(DUE, "e = " + v + " of three", () -> with(3), y -> y.plane(1, 1, 1, v), BAD);
        }
    }

    private static void beyondD() {
        DUE.sentence("Promise 3: BAD if one beyond D is not 0");
        for (int v : new int[] {-3, -1, 1, 3}) {
            refused(DUE, "c of two", () -> with(2), y -> y.plane(1, 1, v, 0), BAD);
            refused(DUE, "e of two", () -> with(2), y -> y.plane(1, 1, 0, v), BAD);
            refused(DUE, "e of three", () -> with(3), y -> y.plane(1, 1, 1, v), BAD);
            refused(DUE, "c alone, of two", () -> with(2), y -> y.plane(0, 0, v, 0), BAD);
            refused(DUE, "e alone, of three", () -> with(3), y -> y.plane(0, 0, 0, v), BAD);
        }
        DUE.is("c of three", with(3).plane(1, 1, 1, 0), 0);
        DUE.is("e of four", with(4).plane(1, 1, 1, 1), 0);
    }

    // ---- promises 4 to 6

    private static void turns() {
        DUE.sentence("Promise 4: Negates all coefficients of a hyperplane");
        PlaneCuts x = with(4, -3, 0, 3, 1, 0, 2, 0, -1);
        x.turns(0);
        DUE.is("the first", rows(x), "3 0 -3 -1, 0 2 0 -1");
        x.turns(1);
        DUE.is("the last", rows(x), "3 0 -3 -1, 0 -2 0 1");
        x.turns(1);
        DUE.is("twice is as it was", rows(x), "3 0 -3 -1, 0 2 0 -1");
        DUE.is("it stays the same hyperplane", x.plane(3, 0, -3, -1), NO);
        DUE.sentence("Promise 4: Returns the number of regions");
        DUE.is("of one", with(3, 1, 1, 1, 0).turns(0), 2);
        DUE.is("of nine lines", nineLines().turns(8), 18);
        DUE.is("of nine generic", nineGeneric().turns(8), 186);
        refusedIndexes("Promise 4: BAD if there is no such hyperplane", (y, i) -> y.turns(i));
    }

    private static void drops() {
        DUE.sentence("Promise 5: Removes a hyperplane; the numbers of those after it decrease by 1");
        Supplier<PlaneCuts> four = () -> with(2, 1, 0, 0, 0, 0, 1, 0, 0, 1, 1, 0, 0, 1, -1, 0, 0);
        String[] left = {"0 1, 1 1, 1 -1", "1 0, 1 1, 1 -1", "1 0, 0 1, 1 -1", "1 0, 0 1, 1 1"};
        for (int i = 0; i < 4; i++) {
            PlaneCuts x = four.get();
            DUE.is("drops(" + i + ")", x.drops(i), 3);
            DUE.is("those left", rows(x), left[i]);
            DUE.is("no fourth", x.of(3, 0), BAD);
        }
        DUE.sentence("Promise 5: Returns how many hyperplanes are left");
        PlaneCuts x = nineGeneric();
        for (int many = 8; many >= 0; many--) {
            DUE.is("drops(0)", x.drops(0), many);
            DUE.is("told(5)", x.told(5), many);
        }
        refused(DUE, "drops(0) of none", () -> with(3), y -> y.drops(0), BAD);
        refusedIndexes("Promise 5: BAD if there is no such hyperplane", (y, i) -> y.drops(i));
    }

    private interface Indexed {
        int ask(PlaneCuts x, int i);
    }

    /** With every number of hyperplanes the first index, the last one, and those that are refused. */
    private static void refusedIndexes(String sentence, Indexed call) {
        DUE.sentence(sentence);
        for (int many = 0; many <= 9; many++) {
            int size = many;
            if (many > 0) {
                DUE.holds("0 of " + many, call.ask(firstOfNine(many), 0) >= 0);
                DUE.holds("the last of " + many, call.ask(firstOfNine(many), many - 1) >= 0);
            }
            for (int i : new int[] {many, -1, LEAST, MOST}) {
                refused(DUE, i + " of " + many, () -> firstOfNine(size), y -> call.ask(y, i), BAD);
            }
        }
    }

    private static void swaps() {
        DUE.sentence("Promise 6: Exchanges the numbers of two hyperplanes");
        Supplier<PlaneCuts> three = () -> with(2, 1, 0, 0, 0, 0, 1, 0, 0, 1, 1, 0, 0);
        String[] due = {"0 1, 1 0, 1 1", "1 1, 0 1, 1 0", "1 0, 1 1, 0 1"};
        int[][] pairs = {{0, 1}, {0, 2}, {1, 2}};
        for (int k = 0; k < 3; k++) {
            PlaneCuts x = three.get();
            x.swaps(pairs[k][0], pairs[k][1]);
            DUE.is("exchanged", rows(x), due[k]);
            PlaneCuts y = three.get();
            y.swaps(pairs[k][1], pairs[k][0]);
            DUE.is("exchanged the other way round", rows(y), due[k]);
        }
        DUE.sentence("Promise 6: Returns the rank of all");
        DUE.is("two of four dimensions", with(4, 1, 0, 0, 0, 0, 1, 0, 0).swaps(0, 1), 2);
        DUE.is("nine lines", nineLines().swaps(0, 8), 2);
        DUE.is("nine generic", nineGeneric().swaps(8, 0), 4);
        swapsOfNoHyperplane();
        DUE.sentence("Promise 6: BAD if both are the same");
        for (int many = 1; many <= 9; many++) {
            int size = many;
            refused(DUE, "the first twice", () -> firstOfNine(size), x -> x.swaps(0, 0), BAD);
            refused(DUE, "the last twice", () -> firstOfNine(size), x -> x.swaps(size - 1, size - 1), BAD);
        }
    }

    private static void swapsOfNoHyperplane() {
        DUE.sentence("Promise 6: BAD if there is no such hyperplane");
        for (int many = 0; many <= 9; many++) {
            int size = many;
            if (many > 1) {
                DUE.is("the first and the last", firstOfNine(many).swaps(0, many - 1), Math.min(many, 4));
                DUE.is("the last and the first", firstOfNine(many).swaps(many - 1, 0), Math.min(many, 4));
            }
            for (int i : new int[] {many, -1, LEAST, MOST}) {
                refused(DUE, i + " and 0 of " + many, () -> firstOfNine(size), x -> x.swaps(i, 0), BAD);
                refused(DUE, "0 and " + i + " of " + many, () -> firstOfNine(size), x -> x.swaps(0, i), BAD);
                refused(DUE, i + " twice of " + many, () -> firstOfNine(size), x -> x.swaps(i, i), BAD);
            }
        }
    }

    // ---- promises 7 and 8

    private static void makes() {
        DUE.sentence("Promise 7: Replaces all hyperplanes by those of a known arrangement");
        PlaneCuts none = with(2);
        DUE.is("of none", none.makes(3), 4);
        DUE.is("four", rows(none), "1 0, 0 1, 1 -1, 1 1");
        DUE.is("of four", none.makes(1), 1);
        DUE.is("one", rows(none), "1 -1");
        PlaneCuts nine = nineGeneric();
        DUE.is("of nine", nine.makes(0), 4);
        DUE.is("four of nine", rows(nine), "1 0 0 0, 0 1 0 0, 0 0 1 0, 0 0 0 1");
        DUE.is("D stays", nine.told(4), 4);
        onlyTheFirstNine();
        kindsInOrder();
        DUE.sentence("Promise 7: Returns the number of hyperplanes");
        int[][] many = {{2, 1, 2, 4}, {3, 3, 6, 9}, {4, 6, 9, 9}};
        for (int d = 2; d <= 4; d++) {
            for (int kind = 0; kind <= 3; kind++) {
                PlaneCuts x = with(d);
                DUE.is("makes(" + kind + ") in " + d, x.makes(kind), many[d - 2][kind]);
                DUE.is("told(5)", x.told(5), many[d - 2][kind]);
            }
        }
        DUE.sentence("Promise 7: BAD if kind is out of range");
        for (int kind : new int[] {-1, 4, 5, 9, LEAST, MOST}) {
            refused(DUE, "makes(" + kind + ")", PlaneCuts::new, x -> x.makes(kind), BAD);
            refused(DUE, "makes(" + kind + ")", () -> nineLines(), x -> x.makes(kind), BAD);
        }
    }

    private static void onlyTheFirstNine() {
        DUE.sentence("Promise 7: of kind 2 and 3 only the first nine");
        PlaneCuts twelve = made(4, 2);
        DUE.is("of twelve", rows(twelve),
                "1 -1 0 0, 1 1 0 0, 1 0 -1 0, 1 0 1 0, 0 1 -1 0, 0 1 1 0, 1 0 0 -1, 1 0 0 1, 0 1 0 -1");
        DUE.is("a tenth", twelve.plane(0, 1, 0, 1), FULL);
        PlaneCuts sixteen = made(4, 3);
        DUE.is("of sixteen", rows(sixteen),
                "1 0 0 0, 0 1 0 0, 0 0 1 0, 0 0 0 1, 1 -1 0 0, 1 1 0 0, 1 0 -1 0, 1 0 1 0, 0 1 -1 0");
        DUE.is("a tenth", sixteen.plane(0, 1, 1, 0), FULL);
        DUE.is("of just nine", rows(made(3, 3)), "1 0 0, 0 1 0, 0 0 1, 1 -1 0, 1 1 0, 1 0 -1, 1 0 1, 0 1 -1, 0 1 1");
        DUE.is("of less than nine", rows(made(3, 2)), "1 -1 0, 1 1 0, 1 0 -1, 1 0 1, 0 1 -1, 0 1 1");
    }

    private static void kindsInOrder() {
        DUE.sentence("Promise 7: kinds 0 to 3, in the least and the greatest space");
        DUE.is("0 in 2", rows(made(2, 0)), "1 0, 0 1");
        DUE.is("0 in 3", rows(made(3, 0)), "1 0 0, 0 1 0, 0 0 1");
        DUE.is("0 in 4", rows(made(4, 0)), "1 0 0 0, 0 1 0 0, 0 0 1 0, 0 0 0 1");
        DUE.is("1 in 2", rows(made(2, 1)), "1 -1");
        DUE.is("1 in 3", rows(made(3, 1)), "1 -1 0, 1 0 -1, 0 1 -1");
        DUE.is("1 in 4", rows(made(4, 1)), "1 -1 0 0, 1 0 -1 0, 0 1 -1 0, 1 0 0 -1, 0 1 0 -1, 0 0 1 -1");
        DUE.is("2 in 2", rows(made(2, 2)), "1 -1, 1 1");
        DUE.is("3 in 2", rows(made(2, 3)), "1 0, 0 1, 1 -1, 1 1");
    }

    private static void of() {
        DUE.sentence("Promise 8: Returns the coefficient plus 10");
        PlaneCuts x = with(4, -3, -2, -1, 0, 1, 2, 3, 0);
        for (int j = 0; j < 3; j++) {
            DUE.is("of(0, " + j + ")", x.of(0, j), 7 + j);
            DUE.is("of(1, " + j + ")", x.of(1, j), 11 + j);
        }
        DUE.is("of(0, 3)", x.of(0, 3), 10);
        refusedIndexes("Promise 8: BAD if there is no such hyperplane", (y, i) -> y.of(i, 0));
        DUE.sentence("Promise 8: BAD if j is out of range (the dimension, 0 to D - 1)");
        for (int d = 2; d <= 4; d++) {
            int dimensions = d;
            DUE.is("the first", made(d, 0).of(0, 0), 11);
            DUE.is("the last", made(d, 0).of(d - 1, d - 1), 11);
            for (int j : new int[] {d, 4, -1, LEAST, MOST}) {
                refused(DUE, "j = " + j + " of " + d, () -> made(dimensions, 0), y -> y.of(0, j), BAD);
            }
        }
    }

    // ---- UNDO and promise 30

    private static void undo() {
        DUE.sentence("Each successful call of space(), plane(), turns(), drops(), swaps(), makes() and reads() is a change");
        oneChange("space", x -> x.space(2));
        oneChange("plane", x -> x.plane(1, 2, 3, 0));
        oneChange("turns", x -> x.turns(0));
        oneChange("drops", x -> x.drops(0));
        oneChange("swaps", x -> x.swaps(0, 1));
        oneChange("makes", x -> x.makes(1));
        oneChange("reads", x -> read(x, "t0;t1;x0;"));
        DUE.sentence("is a change, also if nothing becomes different");
        oneChange("space(3) of none", () -> with(3), x -> x.space(3));
        oneChange("makes(0) again", () -> made(3, 0), x -> x.makes(0));
        oneChange("a text that undoes itself", () -> made(3, 0), x -> read(x, "s01;s01;t2;t2;"));
        oneChange("a text that makes it again", () -> made(3, 0), x -> read(x, "m0;"));
        DUE.sentence("Each successful call is a change: no other call is one");
        noChange("refused: space", x -> x.space(5), BAD);
        noChange("refused: plane", x -> x.plane(1, 0, 0, 0), NO);
        noChange("refused: turns", x -> x.turns(3), BAD);
        noChange("refused: drops", x -> x.drops(3), BAD);
        noChange("refused: swaps", x -> x.swaps(0, 0), BAD);
        noChange("refused: makes", x -> x.makes(4), BAD);
        noChange("a text with an error", x -> read(x, "t0;t"), -14);
        noChange("a command that fails", x -> read(x, "t0;t3;"), -1001);
        noChange("type", x -> x.type(65), 1);
        noChange("clear", x -> x.clear(), 0);
        noChange("parts", x -> x.parts(NONE), 8);
        noChange("why", x -> x.why(0), 0);
        noChange("digest", x -> (int) (0 * x.digest()), 0);
        sixAreKept();
        undoneOneByOne();
        undoneBetweenChanges();
    }

    private static void oneChange(String name, ToIntFunction<PlaneCuts> call) {
        oneChange(name, () -> made(3, 0), call);
    }

    private static void oneChange(String name, Supplier<PlaneCuts> maker, ToIntFunction<PlaneCuts> call) {
        PlaneCuts x = maker.get();
        int kept = x.told(7);
        String before = x.told(4) + ": " + rows(x);
        DUE.holds(name + " succeeds", call.applyAsInt(x) >= 0);
        DUE.is(name + ": kept", x.told(7), kept + 1);
        DUE.is(name + ": back()", x.back(), kept);
        DUE.is(name + ": as it was", x.told(4) + ": " + rows(x), before);
    }

    private static void noChange(String name, ToIntFunction<PlaneCuts> call, int answer) {
        PlaneCuts x = made(3, 0);
        DUE.is(name, call.applyAsInt(x), answer);
        DUE.is(name + ": kept", x.told(7), 2);
        DUE.is(name + ": rows", rows(x), "1 0 0, 0 1 0, 0 0 1");
        DUE.is(name + ": back()", x.back(), 1);
        DUE.is(name + ": undone", x.told(5), 0);
    }

    private static void sixAreKept() {
        DUE.sentence("The latest six changes are kept");
        PlaneCuts x = new PlaneCuts();
        for (int many = 1; many <= 20; many++) {
            x.space(2 + many % 3);
            DUE.is("after " + many + " changes", x.told(7), Math.min(many, 6));
        }
    }

    private static void undoneOneByOne() {
        DUE.sentence("The latest six changes are kept and can be undone one by one");
        for (int many = 0; many <= 14; many++) {
            PlaneCuts x = with(2);
            String[] seen = new String[many + 2];
            seen[0] = "3: ";
            seen[1] = "2: ";
            for (int k = 0; k < many; k++) {
                change(x, k);
                seen[k + 2] = x.told(4) + ": " + rows(x);
            }
            int kept = Math.min(many + 1, 6);
            for (int k = 1; k <= kept; k++) {
                DUE.is("back() " + k + " of " + many, x.back(), kept - k);
                DUE.is("as it was", x.told(4) + ": " + rows(x), seen[many + 1 - k]);
            }
            DUE.is("no more of " + many, x.back(), NO);
            DUE.is("as it was", x.told(4) + ": " + rows(x), seen[many + 1 - kept]);
        }
    }

    /** A different kind of change for each number, so that each leaves another arrangement. */
    private static void change(PlaneCuts x, int k) {
        switch (k % 7) {
            case 0: x.makes(3); break;
            case 1: x.turns(k % 4); break;
            case 2: x.drops(3); break;
            case 3: x.plane(1, 2, 0, 0); break;
            case 4: x.swaps(0, 3); break;
            case 5: read(x, "x0;x0;"); break;
            default: x.space(3 - k / 7); break;
        }
    }

    private static void undoneBetweenChanges() {
        DUE.sentence("The latest six changes are kept: changes after undone ones take their places");
        PlaneCuts x = made(3, 0);
        ArrayDeque<String> model = new ArrayDeque<>();
        model.push("");
        model.push("");
        // So many changes, then so many undone: each number of kept ones comes at several places of a ring.
        int[] steps = {7, -1, 1, -6, 7, -3, 2, -5, 6, -6, 3, -2, 8, -6, 1, -1, 4, -4, 13, -6};
        int count = 0;
        for (int step : steps) {
            for (int k = 0; k < step; k++) {
                model.push(firsts(x));
                if (model.size() > 6) {
                    model.removeLast();
                }
                count++;
                DUE.is("turns", x.turns(Integer.numberOfTrailingZeros(count) % 3), 8);
            }
            for (int k = 0; k > step; k--) {
                String due = model.pop();
                DUE.is("back()", x.back(), model.size());
                DUE.is("as it was", firsts(x), due);
            }
            DUE.is("kept", x.told(7), model.size());
        }
    }

    /** The coefficients on the diagonal, which tell what was turned. */
    private static String firsts(PlaneCuts x) {
        return x.told(5) == 0 ? "" : x.of(0, 0) + " " + x.of(1, 1) + " " + x.of(2, 2);
    }

    private static void back() {
        DUE.sentence("Promise 30: Undoes the latest change that is kept: D and the hyperplanes become as they were before it");
        PlaneCuts x = nineGeneric();
        String nine = rows(x);
        x.space(2);
        x.back();
        DUE.is("D", x.told(4), 4);
        DUE.is("nine", rows(x), nine);
        DUE.is("rank", x.told(6), 4);
        DUE.is("regions", x.parts(NONE), 186);
        DUE.is("circuits", x.rings(NONE), 126);
        DUE.is("base sets", x.base(4, NONE), 56);
        DUE.is("the last region", x.parts(185), 511 - x.parts(0));
        DUE.is("back to eight", x.back(), 4);
        DUE.is("eight", x.told(5), 8);
        DUE.is("regions of eight", x.parts(NONE), 128);
        DUE.sentence("Promise 30: Undoes the latest change: neither the text nor the counts nor the latest failure");
        PlaneCuts y = made(3, 0);
        read(y, "t0;t9;");
        y.turns(3);
        DUE.is("back()", y.back(), 1);
        DUE.is("the text", y.told(3), 6);
        DUE.is("why(0)", y.why(0), 2);
        DUE.is("why(1)", y.why(1), 1);
        DUE.is("counts", counts(y), "1 0 0");
        DUE.is("D and none", y.told(4) + ": " + rows(y), "3: ");
        DUE.sentence("Promise 30: Returns how many changes are kept then");
        PlaneCuts z = new PlaneCuts();
        for (int k = 0; k < 9; k++) {
            z.makes(k % 4);
        }
        for (int kept = 5; kept >= 0; kept--) {
            DUE.is("back()", z.back(), kept);
            DUE.is("told(7)", z.told(7), kept);
        }
        DUE.sentence("Promise 30: NO if there is none");
        DUE.is("after six", z.back(), NO);
        DUE.is("after six, again", z.back(), NO);
        DUE.is("counted", counts(z), "0 2 0");
        DUE.is("as after the third of nine", rows(z), "1 -1 0, 1 1 0, 1 0 -1, 1 0 1, 0 1 -1, 0 1 1");
        refused(DUE, "of a new object", PlaneCuts::new, PlaneCuts::back, NO);
        DUE.is("a change after it is kept", z.makes(0) + z.told(7), 4);
    }

    private static void askedBeforeAndAfter() {
        DUE.sentence("Arrangements can be changed by calls or by a text, with undo: no answer is left over from before a change");
        List<ToIntFunction<PlaneCuts>> changes = List.of(x -> x.space(2), x -> x.space(4), x -> x.plane(1, 2, 0, 0),
                x -> x.turns(1), x -> x.drops(0), x -> x.drops(4), x -> x.swaps(2, 3), x -> x.makes(0), x -> x.makes(3),
                x -> read(x, "m2;t1;x0;"), x -> x.back(), x -> read(x, "t1;x0;m1;p000;"));
        for (int first = 0; first < changes.size(); first++) {
            followed("change " + first, EdgesOfChangesTest::five, changes.get(first));
            for (int second = 0; second < changes.size(); second++) {
                ToIntFunction<PlaneCuts> one = changes.get(first);
                ToIntFunction<PlaneCuts> two = changes.get(second);
                followed("changes " + first + " and " + second, EdgesOfChangesTest::five,
                        x -> 10000 * one.applyAsInt(x) + two.applyAsInt(x));
            }
        }
        for (int kind = 0; kind <= 3; kind++) {
            int made = kind;
            followed("makes(" + kind + ") of lines", Bench::fiveLines, x -> x.makes(made));
        }
    }

    /** x, y, x + y, z and x + 2 z: two circuits of three, which share a hyperplane. */
    private static PlaneCuts five() {
        return with(3, 1, 0, 0, 0, 0, 1, 0, 0, 1, 1, 0, 0, 0, 0, 1, 0, 1, 0, 2, 0);
    }

    private static void followed(String name, Supplier<PlaneCuts> maker, ToIntFunction<PlaneCuts> change) {
        PlaneCuts x = maker.get();
        PlaneCuts fresh = maker.get();
        answers(x);
        int answer = change.applyAsInt(x);
        DUE.is(name, answer, change.applyAsInt(fresh));
        DUE.is(name + ": answers", answers(x), answers(fresh));
        // A part that was asked first may bring others up to date, so each is asked first once.
        for (int part = 0; part < PARTS; part++) {
            PlaneCuts before = maker.get();
            PlaneCuts after = maker.get();
            answers(before);
            change.applyAsInt(before);
            change.applyAsInt(after);
            DUE.is(name + ": part " + part, answersOf(before, part), answersOf(after, part));
        }
    }

    private static String answers(PlaneCuts x) {
        StringBuilder all = new StringBuilder();
        for (int part = 0; part < PARTS; part++) {
            all.append(answersOf(x, part)).append(' ');
        }
        return all.toString();
    }

    private static String answersOf(PlaneCuts x, int part) {
        int all = (1 << x.told(5)) - 1;
        switch (part) {
            case 0: return x.told(6) + " " + x.rank(all & 7);
            case 1: return "" + x.closed(all & 3);
            case 2: return x.flats(1, NONE) + " " + x.flats(2, NONE) + " " + x.flats(2, 0) + " " + x.flats(2, 1) + " " + x.flats(2, 2);
            case 3: return "" + x.sign(all);
            case 4: return x.rings(NONE) + " " + x.rings(0) + " " + x.rings(1) + " " + x.rings(2);
            case 5: return x.factor(0, 0) + " " + x.factor(0, 1) + " " + x.factor(0, 2);
            case 6: return x.polynomial(all, 0) + " " + x.polynomial(all, 1) + " " + x.value(-1) + " " + x.within(0, 1);
            case 7: return x.parts(2) + " " + x.parts(3) + " " + x.parts(5) + " " + x.parts(20);
            case 8: return x.walls(0) + " " + x.walls(all) + " " + x.walls(2) + " " + x.walls(3) + " " + x.parts(NONE);
            case 9: return x.way(0, all, 0) + " " + x.way(0, all, 1);
            case 10: return x.chain(0, 0) + " " + x.chain(1, 0) + " " + x.chain(2, 0) + " " + x.chain(2, 1);
            case 11: return x.even(1) + " " + x.even(2) + " " + x.places(5, 0) + " " + x.places(2, 1);
            case 12: return x.base(2, NONE) + " " + x.base(2, 2) + " " + x.base(2, 4) + " " + x.base(3, 1);
            default: return x.form(all & 6, 0) + " " + x.form(all & 6, 1) + " " + x.form(all & 14, 1) + " " + x.form(all & 14, 2);
        }
    }

    private static void lastCall() {
        DUE.sentence("An object is used for at most 512 calls after it has been made");
        PlaneCuts x = new PlaneCuts();
        DUE.is("call 1", x.makes(3), 9);
        for (int call = 2; call <= 507; call++) {
            DUE.is("call " + call, x.turns(call % 9), 48);
        }
        DUE.is("call 508", x.told(7), 6);
        for (int kept = 5; kept >= 3; kept--) {
            DUE.is("call " + (514 - kept), x.back(), kept);
        }
        // The turns of the calls 2 to 504 are left: 10, 19 and so on up to 496 are 55 of hyperplane 1.
        DUE.is("call 512", x.of(1, 1), 9);
    }
}
