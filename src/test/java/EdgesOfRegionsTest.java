/**
 * The boundary cases of REGIONS, MODULAR FLATS, FINITE FIELDS and ORLIK-SOLOMON ALGEBRA and of the
 * promises 18 to 25, each sentence with a test of its own.
 */
public final class EdgesOfRegionsTest extends Bench {
    private static final Due DUE = new Due("EdgesOfRegionsTest");

    public static void main(String[] args) {
        regions();
        parts();
        walls();
        way();
        wayRefused();
        modularFlats();
        firstChain();
        chain();
        chainRefused();
        even();
        places();
        good();
        placesRefused();
        baseSets();
        base();
        elements();
        form();
        DUE.end();
    }

    // ---- promises 18 to 20

    private static void regions() {
        DUE.sentence("A region: the forms of exactly these hyperplanes are positive, and those of all others are negative");
        for (int d = 2; d <= 4; d++) {
            PlaneCuts none = with(d);
            DUE.is("of none: number", none.parts(NONE), 1);
            DUE.is("of none: the whole space", none.parts(0), 0);
            DUE.is("of none: no second", none.parts(1), BEYOND);
            PlaneCuts one = with(d, 0, -3, 0, 0);
            DUE.is("of one: number", one.parts(NONE), 2);
            DUE.is("of one: where it is negative", one.parts(0), 0);
            DUE.is("of one: where it is positive", one.parts(1), 1);
            DUE.is("of one: no third", one.parts(2), BEYOND);
        }
        PlaneCuts free = made(4, 0);
        for (int set = 0; set < 16; set++) {
            DUE.is("of four independent ones each set", free.parts(set), set);
        }
        // x and y positive, and their sum negative, is nowhere; nor the opposite.
        PlaneCuts three = with(2, 1, 0, 0, 0, 0, 1, 0, 0, 1, 1, 0, 0);
        DUE.is("nowhere", three.walls(3), NO);
        DUE.is("nowhere, opposite", three.walls(4), NO);
        three.turns(2);
        DUE.is("the third turned", three.walls(3), 3);
        DUE.is("nowhere, the third turned", three.walls(7), NO);
    }

    private static void parts() {
        DUE.sentence("Promise 18: NONE for the number of regions; otherwise the index, from 0; -5 if there is no index i");
        int[] generic = {1, 2, 4, 8, 16, 30, 52, 84, 128, 186};
        for (int many = 0; many <= 9; many++) {
            PlaneCuts x = firstOfNine(many);
            int last = generic[many] - 1;
            DUE.is("number of " + many, x.parts(NONE), generic[many]);
            DUE.is("opposite of the first", x.parts(last), (1 << many) - 1 - x.parts(0));
            DUE.is("beyond", x.parts(last + 1), BEYOND);
            DUE.is("far beyond", x.parts(MOST), BEYOND);
            DUE.is("no error", counts(x), "0 0 0");
        }
        DUE.is("nine lines", nineLines().parts(NONE), 18);
        DUE.is("nine planes", made(3, 3).parts(NONE), 48);
        DUE.is("nine planes, each three independent", ninePlanes().parts(NONE), 74);
        DUE.sentence("Promise 18: BAD if i is below -1");
        for (int i : new int[] {-2, -3, -5, LEAST}) {
            refused(DUE, "parts(" + i + ")", PlaneCuts::new, y -> y.parts(i), BAD);
            refused(DUE, "parts(" + i + ")", () -> nineGeneric(), y -> y.parts(i), BAD);
        }
    }

    private static void walls() {
        DUE.sentence("The walls of a region are the hyperplanes whose addition to, or removal from, the set gives another region");
        DUE.is("of none", new PlaneCuts().walls(0), 0);
        DUE.is("of one, by addition", with(2, 1, 1, 0, 0).walls(0), 1);
        DUE.is("of one, by removal", with(2, 1, 1, 0, 0).walls(1), 1);
        DUE.is("of four independent ones", made(4, 0).walls(5), 15);
        PlaneCuts lines = nineLines();
        for (int i = 0; i < 18; i++) {
            int region = lines.parts(i);
            DUE.is("two of nine lines", Integer.bitCount(lines.walls(region)), 2);
            DUE.is("the same as of the opposite region", lines.walls(511 - region), lines.walls(region));
        }
        DUE.is("all four of four", fourGeneric().walls(9), 14);
        DUE.is("but three of four", fourGeneric().walls(15), 7);
        DUE.sentence("Promise 19: BAD if part is not a set of hyperplanes");
        for (int many = 0; many <= 9; many++) {
            int size = many;
            for (int set : wrongSets(many)) {
                refused(DUE, "walls(" + set + ") of " + many, () -> firstOfNine(size), y -> y.walls(set), BAD);
            }
        }
        DUE.sentence("Promise 19: NO if it is not a region");
        refused(DUE, "walls(7)", () -> fourGeneric(), y -> y.walls(7), NO);
        refused(DUE, "walls(8)", () -> fourGeneric(), y -> y.walls(8), NO);
        PlaneCuts nine = firstOfNine(9);
        int regions = 0;
        for (int set = 0; set < 256; set++) {
            regions += nine.walls(set) == NO ? 0 : 1;
        }
        DUE.is("regions without the ninth", regions, 93);
        DUE.is("the others", counts(nine), "0 163 0");
    }

    private static void way() {
        DUE.sentence("Promise 20: the last region; it may equal from");
        DUE.is("of none: length", new PlaneCuts().way(0, 0, 0), 0);
        DUE.is("of none: number", new PlaneCuts().way(0, 0, 1), 1);
        PlaneCuts nine = nineGeneric();
        DUE.is("of nine: length", nine.way(nine.parts(185), nine.parts(185), 0), 0);
        DUE.is("of nine: number", nine.way(nine.parts(185), nine.parts(185), 1), 1);
        DUE.sentence("Promise 20: 0 for the length, in steps; 1 for the number of galleries of this length");
        DUE.is("one step", with(2, 1, 1, 0, 0).way(1, 0, 0), 1);
        DUE.is("one gallery", with(2, 1, 1, 0, 0).way(1, 0, 1), 1);
        PlaneCuts lines = nineLines();
        int first = lines.parts(0);
        DUE.is("nine lines: length", lines.way(first, 511 - first, 0), 9);
        DUE.is("nine lines: number", lines.way(first, 511 - first, 1), 2);
        PlaneCuts planes = made(3, 3);
        DUE.is("nine planes: length", planes.way(planes.parts(0), planes.parts(47), 0), 9);
        DUE.is("nine planes: number", planes.way(planes.parts(0), planes.parts(47), 1), 42);
        DUE.is("four independent ones: length", made(4, 0).way(15, 0, 0), 4);
        DUE.is("four independent ones: number", made(4, 0).way(15, 0, 1), 24);
        DUE.is("nine generic: length", nine.way(nine.parts(0), nine.parts(185), 0), 9);
        DUE.holds("nine generic: number", nine.way(nine.parts(0), nine.parts(185), 1) > 1000);
        DUE.is("nine generic: as many the other way round", nine.way(nine.parts(185), nine.parts(0), 1),
                nine.way(nine.parts(0), nine.parts(185), 1));
        DUE.is("no error", counts(nine), "0 0 0");
    }

    private static void wayRefused() {
        DUE.sentence("Promise 20: BAD if from or to is not a set of hyperplanes");
        for (int many = 0; many <= 9; many++) {
            int size = many;
            for (int set : wrongSets(many)) {
                refused(DUE, "from " + set + " of " + many, () -> firstOfNine(size), y -> y.way(set, y.parts(0), 0), BAD);
                refused(DUE, "to " + set + " of " + many, () -> firstOfNine(size), y -> y.way(y.parts(0), set, 1), BAD);
            }
        }
        DUE.sentence("Promise 20: BAD if what is not 0 or 1");
        for (int what : new int[] {-1, 2, 3, LEAST, MOST}) {
            refused(DUE, "what = " + what, () -> fourGeneric(), y -> y.way(0, 15, what), BAD);
            refused(DUE, "what = " + what + " of none", PlaneCuts::new, y -> y.way(0, 0, what), BAD);
        }
        DUE.sentence("Promise 20: NO if one of both is not a region");
        for (int what = 0; what <= 1; what++) {
            int asked = what;
            refused(DUE, "from none", () -> fourGeneric(), y -> y.way(7, 0, asked), NO);
            refused(DUE, "to none", () -> fourGeneric(), y -> y.way(0, 7, asked), NO);
            refused(DUE, "from none to none", () -> fourGeneric(), y -> y.way(7, 8, asked), NO);
            refused(DUE, "from none to the same", () -> fourGeneric(), y -> y.way(8, 8, asked), NO);
        }
    }

    // ---- promises 21 and 22

    private static void modularFlats() {
        DUE.sentence("A flat X is modular if for each flat Y: always the empty set, each hyperplane, and all");
        for (int many = 0; many <= 9; many++) {
            PlaneCuts x = firstOfNine(many);
            int rank = Math.min(many, 4);
            DUE.is("of rank 0", x.even(0), 1);
            DUE.is("of rank 1", x.even(1), many);
            DUE.is("of the rank of all", x.even(rank), rank == 1 ? many : 1);
        }
        DUE.is("all flats of independent ones", made(4, 0).even(2), 6);
        DUE.is("none of rank 2 of nine generic", nineGeneric().even(2), 0);
        DUE.is("none of rank 3 of nine generic", nineGeneric().even(3), 0);
        DUE.is("three of nine planes", made(3, 3).even(2), 3);
    }

    private static void firstChain() {
        DUE.sentence("The first modular chain is the one with the smallest X1");
        // z, x, y, x + y, x - y, x + z, y + z: z is modular, but in no modular flat of rank 2.
        PlaneCuts x = with(3, 0, 0, 1, 0, 1, 0, 0, 0, 0, 1, 0, 0, 1, 1, 0, 0, 1, -1, 0, 0, 1, 0, 1, 0, 0, 1, 1, 0);
        chainIs(x, 2, 30, 127);
        chainIs(made(2, 3), 1, 15);
        DUE.sentence("The first modular chain: of several that with the smallest X2, and so on");
        chainIs(made(3, 3), 1, 27, 511);
        chainIs(made(4, 0), 1, 3, 7, 15);
        // The same with w behind z: now z and w are a modular flat too, and in no modular flat of rank 3.
        PlaneCuts y = with(4, 0, 0, 1, 0, 0, 0, 0, 1, 1, 0, 0, 0, 0, 1, 0, 0, 1, 1, 0, 0, 1, -1, 0, 0, 1, 0, 1, 0, 0, 1, 1, 0);
        DUE.is("modular of rank 2: z and w, and others", y.even(2), 8);
        chainIs(y, 2, 6, 62, 255);
    }

    private static void chainIs(PlaneCuts x, int... flats) {
        DUE.is("chain(0, 0)", x.chain(0, 0), flats.length);
        DUE.is("chain(0, 1)", x.chain(0, 1), flats.length);
        int had = 0;
        for (int i = 1; i <= flats.length; i++) {
            int has = Integer.bitCount(flats[i - 1]);
            DUE.is("chain(" + i + ", 0)", x.chain(i, 0), flats[i - 1]);
            DUE.is("chain(" + i + ", 1)", x.chain(i, 1), has - had);
            had = has;
        }
        DUE.is("chain(" + (flats.length + 1) + ", 0)", x.chain(flats.length + 1, 0), BEYOND);
        DUE.is("chain(" + (flats.length + 1) + ", 1)", x.chain(flats.length + 1, 1), BEYOND);
        DUE.is("no error", counts(x), "0 0 0");
    }

    private static void chain() {
        DUE.sentence("Promise 21: 0 for how many flats the chain has after X0; otherwise the index i of Xi; -5 if the chain has no Xi");
        chainIs(with(2));
        chainIs(with(4));
        chainIs(with(4, 1, 2, 3, 3), 1);
        chainIs(nineLines(), 1, 511);
        chainIs(with(4, 1, 0, 0, 0, 0, 1, 0, 0), 1, 3);
        DUE.is("far beyond", nineLines().chain(MOST, 0), BEYOND);
        DUE.is("far beyond, of none", with(3).chain(MOST, 1), BEYOND);
        DUE.sentence("Promise 21: 0 for Xi; 1 for step i; it does not matter for i = 0");
        for (int d = 2; d <= 4; d++) {
            DUE.is("what = 0", made(d, 0).chain(0, 0), d);
            DUE.is("what = 1", made(d, 0).chain(0, 1), d);
        }
        DUE.sentence("Step i is how many hyperplanes Xi has more than the flat before it");
        DUE.is("the first", nineLines().chain(1, 1), 1);
        DUE.is("the greatest", nineLines().chain(2, 1), 8);
        DUE.is("the last", made(3, 3).chain(3, 1), 5);
    }

    private static void chainRefused() {
        DUE.sentence("Promise 21: BAD if i is negative");
        for (int i : new int[] {-1, -2, -5, LEAST}) {
            for (int what = 0; what <= 1; what++) {
                int asked = what;
                refused(DUE, "chain(" + i + ", " + what + ")", () -> made(4, 0), y -> y.chain(i, asked), BAD);
                refused(DUE, "chain(" + i + ", " + what + ") of none", PlaneCuts::new, y -> y.chain(i, asked), BAD);
            }
        }
        DUE.sentence("Promise 21: BAD if what is not 0 or 1");
        for (int what : new int[] {-1, 2, 3, LEAST, MOST}) {
            for (int i : new int[] {0, 1, 4, 5, MOST}) {
                refused(DUE, "chain(" + i + ", " + what + ")", () -> made(4, 0), y -> y.chain(i, what), BAD);
            }
            refused(DUE, "chain(0, " + what + ") of none", PlaneCuts::new, y -> y.chain(0, what), BAD);
        }
        DUE.sentence("Promise 21: NO if there is no modular chain");
        for (int i : new int[] {0, 1, 3, 4, MOST}) {
            refused(DUE, "chain(" + i + ", 0)", () -> fourGeneric(), y -> y.chain(i, 0), NO);
            refused(DUE, "chain(" + i + ", 1)", () -> nineGeneric(), y -> y.chain(i, 1), NO);
        }
        DUE.is("three of the four have one", firstThree().chain(0, 0), 3);
    }

    private static PlaneCuts firstThree() {
        PlaneCuts x = fourGeneric();
        x.drops(3);
        return x;
    }

    private static void even() {
        DUE.sentence("Promise 22: the rank, 0 to 4: also above the rank of all and above D");
        for (int d = 2; d <= 4; d++) {
            PlaneCuts none = with(d);
            DUE.is("rank 0 of none", none.even(0), 1);
            for (int k = 1; k <= 4; k++) {
                DUE.is("rank " + k + " of none", none.even(k), 0);
            }
        }
        DUE.is("rank 3 of lines", nineLines().even(3), 0);
        DUE.is("rank 4 of planes", made(3, 3).even(4), 0);
        DUE.is("rank 4", made(4, 3).even(4), 1);
        DUE.sentence("Promise 22: BAD if k is out of range");
        for (int k : new int[] {-1, 5, 6, LEAST, MOST}) {
            refused(DUE, "even(" + k + ")", PlaneCuts::new, y -> y.even(k), BAD);
            refused(DUE, "even(" + k + ")", () -> nineGeneric(), y -> y.even(k), BAD);
        }
    }

    // ---- promise 23

    private static void places() {
        DUE.sentence("Promise 23: the rows of D numbers from 0 to p - 1 for which no form is a multiple of p");
        int[] primes = {2, 3, 5, 7};
        for (int d = 2; d <= 4; d++) {
            for (int p : primes) {
                int all = 1;
                int free = 1;
                for (int k = 0; k < d; k++) {
                    all *= p;
                    free *= p - 1;
                }
                DUE.is("none: all rows of " + d + " below " + p, with(d).places(p, 0), all);
                DUE.is("coordinates: all rows without 0", made(d, 0).places(p, 0), free);
                DUE.is("one: all but its own", with(d, 1, 1, 0, 0).places(p, 0), all - all / p);
            }
        }
        DUE.is("a form that is always a multiple of 3", with(4, 3, 0, -3, 3).places(3, 0), 0);
        DUE.is("a form that is always a multiple of 2", with(4, 2, 0, -2, 2).places(2, 0), 0);
        DUE.is("a form that is not always one of 7", with(2, 3, 3, 0, 0).places(7, 0), 42);
        DUE.is("negative forms that are multiples", with(2, -3, -2, 0, 0).places(5, 0), 20);
        DUE.is("two that are one modulo 2", with(2, 1, 1, 0, 0, 1, -1, 0, 0).places(2, 0), 2);
        DUE.is("nine planes below 7", made(3, 3).places(7, 0), 6 * 4 * 2);
        DUE.is("nine planes below 5", made(3, 3).places(5, 0), 0);
    }

    private static void good() {
        DUE.sentence("A prime p is good if each independent set of hyperplanes is also independent modulo p");
        for (int p : new int[] {2, 3, 5, 7}) {
            DUE.is("none: " + p, with(4).places(p, 1), 1);
            DUE.is("coordinates: " + p, made(4, 0).places(p, 1), 1);
        }
        goodAre(with(2, 1, 1, 0, 0, 1, -1, 0, 0), 0, 1, 1, 1);
        goodAre(with(2, 1, 1, 0, 0, 1, -2, 0, 0), 1, 0, 1, 1);
        goodAre(with(2, 1, 2, 0, 0, 2, -1, 0, 0), 1, 1, 0, 1);
        goodAre(with(2, 2, 1, 0, 0, -3, 2, 0, 0), 1, 1, 1, 0);
        goodAre(with(3, 2, 0, 2, 0), 0, 1, 1, 1);
        goodAre(with(3, 3, -3, 3, 0), 1, 0, 1, 1);
        goodAre(with(2, 3, 0, 0, 0, 0, 2, 0, 0), 0, 0, 1, 1);
        // A set of two fails modulo 2, beside greatest independent sets of three.
        goodAre(with(3, 1, 1, 0, 0, 1, -1, 0, 0, 0, 0, 1, 0), 0, 1, 1, 1);
        // The rank of all is below D.
        goodAre(with(4, 1, 1, 0, 0, 1, -2, 0, 0), 1, 0, 1, 1);
    }

    private static void goodAre(PlaneCuts x, int two, int three, int five, int seven) {
        String found = x.places(2, 1) + " " + x.places(3, 1) + " " + x.places(5, 1) + " " + x.places(7, 1);
        DUE.is("good of " + rows(x), found, two + " " + three + " " + five + " " + seven);
    }

    private static void placesRefused() {
        DUE.sentence("Promise 23: BAD if p is none of these (2, 3, 5 or 7)");
        for (int p : new int[] {1, 4, 6, 8, 9, 11, 0, -1, -2, -7, LEAST, MOST}) {
            for (int what = 0; what <= 1; what++) {
                int asked = what;
                refused(DUE, "places(" + p + ", " + what + ")", () -> made(3, 1), y -> y.places(p, asked), BAD);
                refused(DUE, "places(" + p + ", " + what + ") of none", PlaneCuts::new, y -> y.places(p, asked), BAD);
            }
        }
        DUE.sentence("Promise 23: BAD if what is not 0 or 1");
        for (int what : new int[] {-1, 2, 3, LEAST, MOST}) {
            for (int p : new int[] {2, 3, 5, 7}) {
                refused(DUE, "places(" + p + ", " + what + ")", () -> made(3, 1), y -> y.places(p, what), BAD);
            }
        }
    }

    // ---- promises 24 and 25

    private static void baseSets() {
        DUE.sentence("A base set is an independent set that does not contain a broken circuit as a subset: always the empty set");
        for (int many = 0; many <= 9; many++) {
            PlaneCuts x = firstOfNine(many);
            DUE.is("number of the size 0", x.base(0, NONE), 1);
            DUE.is("of the size 0", x.base(0, 0), 0);
            DUE.is("number of the size 1", x.base(1, NONE), many);
            DUE.is("number of the size 2", x.base(2, NONE), many * (many - 1) / 2);
        }
        DUE.sentence("A broken circuit is a circuit without its lowest hyperplane");
        // One circuit, 1, 2 and 3: the sets with 2 and 3 are no base sets.
        PlaneCuts x = with(3, 0, 0, 1, 0, 1, 0, 0, 0, 0, 1, 0, 0, 1, 1, 0, 0);
        int[] due = {3, 5, 6, 9, 10};
        DUE.is("number", x.base(2, NONE), 5);
        for (int i = 0; i < 5; i++) {
            DUE.is("base(2, " + i + ")", x.base(2, i), due[i]);
        }
        DUE.is("of three", x.base(3, NONE), 2);
        DUE.is("the first of three", x.base(3, 0), 7);
        DUE.is("the last of three", x.base(3, 1), 11);
    }

    private static void base() {
        DUE.sentence("Promise 24: its size, 0 to 4: also above the rank of all and above D");
        for (int d = 2; d <= 4; d++) {
            PlaneCuts none = with(d);
            for (int k = 1; k <= 4; k++) {
                DUE.is("number of the size " + k, none.base(k, NONE), 0);
                DUE.is("first of the size " + k, none.base(k, 0), BEYOND);
            }
        }
        DUE.is("three lines", nineLines().base(3, NONE), 0);
        DUE.is("four planes", made(3, 3).base(4, NONE), 0);
        DUE.sentence("Promise 24: NONE for the number of base sets; otherwise the index, from 0; -5 if there is no index i");
        PlaneCuts x = nineGeneric();
        int[] number = {1, 9, 36, 84, 56};
        int[] last = {0, 256, 384, 448, 449};
        for (int k = 0; k <= 4; k++) {
            DUE.is("number", x.base(k, NONE), number[k]);
            DUE.is("last", x.base(k, number[k] - 1), last[k]);
            DUE.is("beyond", x.base(k, number[k]), BEYOND);
            DUE.is("far beyond", x.base(k, MOST), BEYOND);
        }
        DUE.is("no error", counts(x), "0 0 0");
        DUE.sentence("Promise 24: BAD if k is out of range");
        for (int k : new int[] {-1, 5, 6, LEAST, MOST}) {
            for (int i : new int[] {NONE, 0, MOST}) {
                refused(DUE, "base(" + k + ", " + i + ")", () -> made(4, 0), y -> y.base(k, i), BAD);
            }
        }
        DUE.sentence("Promise 24: BAD if i is below -1");
        for (int k = 0; k <= 4; k++) {
            int size = k;
            for (int i : new int[] {-2, -3, -5, LEAST}) {
                refused(DUE, "base(" + k + ", " + i + ")", () -> made(4, 0), y -> y.base(size, i), BAD);
            }
        }
    }

    private static void elements() {
        DUE.sentence("an element: It is 0 if the hyperplanes are dependent");
        PlaneCuts x = with(3, 1, 0, 0, 0, 0, 1, 0, 0, 1, 1, 0, 0, 0, 0, 1, 0);
        DUE.is("base sets of three", x.base(3, NONE), 2);
        DUE.is("a dependent set", x.form(7, 0), 1000);
        DUE.is("a dependent set", x.form(7, 1), 1000);
        DUE.sentence("Each element is in exactly one way the sum: that of a base set is itself");
        PlaneCuts nine = nineGeneric();
        for (int k = 0; k <= 4; k++) {
            int last = nine.base(k, NONE) - 1;
            DUE.is("the first of " + k, nine.form(nine.base(k, 0), 0), 1001);
            DUE.is("the last of " + k, nine.form(nine.base(k, last), last), 1001);
            DUE.is("the last of " + k + " has none of the first", nine.form(nine.base(k, last), 0), last == 0 ? 1001 : 1000);
        }
        DUE.sentence("For each circuit the sum over j = 1 to m, of (-1 if j is odd, 1 if j is even) times the element is 0");
        // The circuits of five: e(5, 6, 7, 8) is the sum of those with 0 in a place, alternately taken.
        int[] parts = {480 ^ 32 | 1, 480 ^ 64 | 1, 480 ^ 128 | 1, 480 ^ 256 | 1};
        int[] due = {1, -1, 1, -1};
        for (int i = 0; i < 56; i++) {
            int want = 0;
            for (int k = 0; k < 4; k++) {
                if (nine.base(4, i) == parts[k]) {
                    want = due[k];
                }
            }
            DUE.is("form(480, " + i + ")", nine.form(480, i), want + 1000);
        }
    }

    private static void form() {
        DUE.sentence("Promise 25: the set, of at most four hyperplanes: none of them, and four");
        DUE.is("the empty set of none", new PlaneCuts().form(0, 0), 1001);
        DUE.is("the empty set of nine", nineGeneric().form(0, 0), 1001);
        DUE.is("four of four", made(4, 0).form(15, 0), 1001);
        DUE.is("the last four of nine", nineGeneric().form(480, 55), 1001);
        DUE.sentence("Promise 25: BAD if set is not a set of hyperplanes");
        for (int many = 0; many <= 9; many++) {
            int size = many;
            for (int set : wrongSets(many)) {
                refused(DUE, "form(" + set + ", 0) of " + many, () -> firstOfNine(size), y -> y.form(set, 0), BAD);
            }
        }
        DUE.sentence("Promise 25: BAD if set has more than four of them");
        for (int set : new int[] {31, 496, 63, 510, 511}) {
            refused(DUE, "form(" + set + ", 0)", () -> nineGeneric(), y -> y.form(set, 0), BAD);
            refused(DUE, "form(" + set + ", 0) of lines", () -> nineLines(), y -> y.form(set, 0), BAD);
        }
        DUE.sentence("Promise 25: BAD if i is negative");
        for (int i : new int[] {-1, -2, LEAST}) {
            for (int set : new int[] {0, 1, 3, 480}) {
                refused(DUE, "form(" + set + ", " + i + ")", () -> nineGeneric(), y -> y.form(set, i), BAD);
            }
            refused(DUE, "form(0, " + i + ") of none", PlaneCuts::new, y -> y.form(0, i), BAD);
        }
        DUE.sentence("Promise 25: NO if there is no such base set");
        int[] number = {1, 9, 36, 84, 56};
        for (int k = 0; k <= 4; k++) {
            int set = (1 << k) - 1;
            int many = number[k];
            DUE.is("the last of " + k, nineGeneric().form(set, many - 1), many == 1 ? 1001 : 1000);
            refused(DUE, "the next of " + k, () -> nineGeneric(), y -> y.form(set, many), NO);
            refused(DUE, "a far one of " + k, () -> nineGeneric(), y -> y.form(set, MOST), NO);
        }
        refused(DUE, "three lines", () -> nineLines(), y -> y.form(7, 0), NO);
        refused(DUE, "four planes", () -> fourGeneric(), y -> y.form(15, 0), NO);
        refused(DUE, "a second of none", PlaneCuts::new, y -> y.form(0, 1), NO);
    }
}
