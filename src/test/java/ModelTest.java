/** Runs of calls, chosen by a fixed sequence of numbers, on the program and on the plain model. */
public final class ModelTest {
    private static final Due DUE = new Due("ModelTest");
    private static final String[] TEXTS = {
        "d4;p1 0 0-1;p 0 1-1 0 ;s01;t1;", "d2;p12;p-21;", "m3;x0;", "m1;", "m3;p123;", "p100;p-100;", "t0;", "d3;m2;t5;x2;s01;",
        "", "  ", "d1;", "p1-0 0;", "p- 1000;", "p1000", "d2;p12;d4;p1234;", "d4;m2;x8;p1 1 1 1;", "s00;", "m4;", "x", "d3", "d3;;", "d3 ; ",
        "p1;", "P100;", "d 2 ; p - 1 1;", "d2;p-", "d2;p9-9;", "t 3;t 3;"};

    private static long state = 88172645463325252L;

    private static int pick(int many) {
        state ^= state << 13;
        state ^= state >>> 7;
        state ^= state << 17;
        return (int) Math.floorMod(state, (long) many);
    }

    /** Mostly from low to high, now and then a little or far outside. */
    private static int around(int low, int high) {
        switch (pick(24)) {
            case 0: return low - 1;
            case 1: return high + 1;
            case 2: return new int[] {Integer.MIN_VALUE, Integer.MAX_VALUE, -5, 512, 1 << 20}[pick(5)];
            default: return low + pick(high - low + 1);
        }
    }

    public static void main(String[] args) {
        for (int run = 0; run < 260; run++) {
            PlaneCuts real = new PlaneCuts();
            PlainCuts plain = new PlainCuts();
            begin(run, real, plain);
            for (int k = 0; k < 150; k++) {
                call(run, real, plain);
            }
            DUE.is("run " + run + " digest()", real.digest(), plain.digest());
        }
        for (int run = 1000; run < 1060; run++) {
            PlaneCuts real = new PlaneCuts();
            PlainCuts plain = new PlainCuts();
            begin(run, real, plain);
            everything(run, real, plain);
        }
        DUE.end();
    }

    private static void begin(int run, PlaneCuts real, PlainCuts plain) {
        int d = 2 + run % 3;
        DUE.is("space", real.space(d), plain.space(d));
        if (run % 4 == 0) {
            int kind = pick(4);
            DUE.is("makes", real.makes(kind), plain.makes(kind));
            return;
        }
        // Small coefficients make many dependent sets, great ones few.
        int reach = 1 + run % 3;
        int many = 3 + pick(10);
        for (int k = 0; k < many; k++) {
            addPlane(run, real, plain, reach, d);
        }
    }

    private static void addPlane(int run, PlaneCuts real, PlainCuts plain, int reach, int d) {
        int a = pick(2 * reach + 1) - reach;
        int b = pick(2 * reach + 1) - reach;
        int c = d < 3 ? 0 : pick(2 * reach + 1) - reach;
        int e = d < 4 ? 0 : pick(2 * reach + 1) - reach;
        DUE.is("run " + run + " plane(" + a + ", " + b + ", " + c + ", " + e + ")",
                real.plane(a, b, c, e), plain.plane(a, b, c, e));
    }

    private static void call(int run, PlaneCuts real, PlainCuts plain) {
        if (pick(10) == 0) {
            change(run, real, plain);
        } else {
            int n = real.told(5);
            ask(run, real, plain, pick(27), (1 << n) - 1, n);
        }
    }

    private static void change(int run, PlaneCuts r, PlainCuts q) {
        String name = "run " + run + " ";
        int n = Math.max(1, r.told(5));
        int i = around(0, n - 1);
        int j = around(0, n - 1);
        switch (pick(12)) {
            case 0:
                if (pick(3) == 0) {
                    int d = around(2, 4);
                    DUE.is(name + "space(" + d + ")", r.space(d), q.space(d));
                }
                break;
            case 1: case 2: addPlane(run, r, q, 1 + pick(3), r.told(4)); break;
            case 3:
                int a = around(-3, 3);
                int c = around(-3, 3);
                int e = around(-3, 3);
                DUE.is(name + "plane(" + a + ", " + i + ", " + c + ", " + e + ")",
                        r.plane(a, i, c, e), q.plane(a, i, c, e));
                break;
            case 4: DUE.is(name + "turns(" + i + ")", r.turns(i), q.turns(i)); break;
            case 5: DUE.is(name + "drops(" + i + ")", r.drops(i), q.drops(i)); break;
            case 6: DUE.is(name + "swaps(" + i + ", " + j + ")", r.swaps(i, j), q.swaps(i, j)); break;
            case 7: DUE.is(name + "makes(" + i + ")", r.makes(i), q.makes(i)); break;
            case 8: case 9: text(run, r, q); break;
            default: DUE.is(name + "back()", r.back(), q.back()); break;
        }
    }

    private static void text(int run, PlaneCuts r, PlainCuts q) {
        String name = "run " + run + " ";
        if (pick(3) != 0) {
            DUE.is(name + "clear()", r.clear(), q.clear());
        }
        String text = TEXTS[pick(TEXTS.length)];
        for (int k = 0; k < text.length(); k++) {
            // A few bytes are changed, so that errors come at every place.
            int c = pick(40) == 0 ? around(0, 127) : text.charAt(k);
            DUE.is(name + "type(" + c + ")", r.type(c), q.type(c));
        }
        DUE.is(name + "reads() of " + text, r.reads(), q.reads());
        DUE.is(name + "why(0)", r.why(0), q.why(0));
        DUE.is(name + "why(1)", r.why(1), q.why(1));
    }

    private static void ask(int run, PlaneCuts r, PlainCuts q, int method, int all, int n) {
        String name = "run " + run + " ";
        int s = around(0, all);
        int u = around(0, all);
        int k = around(0, 4);
        int i = around(-1, 30);
        int h = around(0, Math.max(0, n - 1));
        int w = around(0, 1);
        int p = new int[] {2, 3, 5, 7, around(0, 8)}[pick(5)];
        if (pick(2) == 0) {
            s = region(r, q, i, s);
            u = region(r, q, around(0, 30), u);
        }
        switch (method) {
            case 0: DUE.is(name + "of(" + h + ", " + k + ")", r.of(h, k), q.of(h, k)); break;
            case 1: DUE.is(name + "rank(" + s + ")", r.rank(s), q.rank(s)); break;
            case 2: DUE.is(name + "closed(" + s + ")", r.closed(s), q.closed(s)); break;
            case 3: DUE.is(name + "flats(" + k + ", " + i + ")", r.flats(k, i), q.flats(k, i)); break;
            case 4: DUE.is(name + "sign(" + s + ")", r.sign(s), q.sign(s)); break;
            case 5: case 6:
                int flat = r.closed(s);
                q.closed(s);
                DUE.is(name + "sign(" + flat + ")", r.sign(flat), q.sign(flat));
                break;
            case 7: DUE.is(name + "rings(" + i + ")", r.rings(i), q.rings(i)); break;
            case 8: case 9: DUE.is(name + "factor(" + i + ", " + h + ")", r.factor(i, h), q.factor(i, h)); break;
            case 10: DUE.is(name + "polynomial(" + s + ", " + k + ")", r.polynomial(s, k), q.polynomial(s, k)); break;
            case 11:
                int t = around(-9, 9);
                DUE.is(name + "value(" + t + ")", r.value(t), q.value(t));
                break;
            case 12: DUE.is(name + "within(" + h + ", " + k + ")", r.within(h, k), q.within(h, k)); break;
            case 13: DUE.is(name + "parts(" + i + ")", r.parts(i), q.parts(i)); break;
            case 14: DUE.is(name + "walls(" + s + ")", r.walls(s), q.walls(s)); break;
            case 15: case 16:
                DUE.is(name + "way(" + s + ", " + u + ", " + w + ")", r.way(s, u, w), q.way(s, u, w));
                break;
            case 17: DUE.is(name + "chain(" + k + ", " + w + ")", r.chain(k, w), q.chain(k, w)); break;
            case 18: DUE.is(name + "even(" + k + ")", r.even(k), q.even(k)); break;
            case 19: DUE.is(name + "places(" + p + ", " + w + ")", r.places(p, w), q.places(p, w)); break;
            case 20: DUE.is(name + "base(" + k + ", " + i + ")", r.base(k, i), q.base(k, i)); break;
            case 21: case 22: case 23:
                DUE.is(name + "form(" + s + ", " + i + ")", r.form(s, i), q.form(s, i));
                break;
            case 24: DUE.is(name + "why(" + w + ")", r.why(w), q.why(w)); break;
            case 25:
                int what = around(0, 7);
                DUE.is(name + "told(" + what + ")", r.told(what), q.told(what));
                break;
            default: DUE.is(name + "digest()", r.digest(), q.digest()); break;
        }
    }

    private static int region(PlaneCuts r, PlainCuts q, int i, int otherwise) {
        int found = r.parts(i);
        DUE.is("parts(" + i + ")", found, q.parts(i));
        return i >= 0 && found >= 0 ? found : otherwise;
    }

    /** Every question about one arrangement, with every argument in range and one beyond. */
    private static void everything(int run, PlaneCuts r, PlainCuts q) {
        String name = "run " + run + " ";
        int n = r.told(5);
        int sets = 1 << n;
        for (int s = -1; s <= sets; s++) {
            DUE.is(name + "rank(" + s + ")", r.rank(s), q.rank(s));
            DUE.is(name + "closed(" + s + ")", r.closed(s), q.closed(s));
            DUE.is(name + "sign(" + s + ")", r.sign(s), q.sign(s));
            DUE.is(name + "walls(" + s + ")", r.walls(s), q.walls(s));
            for (int i = 0; i < 130 && Integer.bitCount(s) <= 5; i++) {
                DUE.is(name + "form(" + s + ", " + i + ")", r.form(s, i), q.form(s, i));
            }
        }
        for (int i = -2; i < 190; i++) {
            DUE.is(name + "parts(" + i + ")", r.parts(i), q.parts(i));
            DUE.is(name + "rings(" + i + ")", r.rings(i), q.rings(i));
            for (int k = -1; k <= 5; k++) {
                DUE.is(name + "flats(" + k + ", " + i + ")", r.flats(k, i), q.flats(k, i));
                DUE.is(name + "base(" + k + ", " + i + ")", r.base(k, i), q.base(k, i));
            }
        }
        for (int i = -1; i < 128; i++) {
            for (int h = -1; h <= n; h++) {
                DUE.is(name + "factor(" + i + ", " + h + ")", r.factor(i, h), q.factor(i, h));
            }
        }
        for (int from = 0; from < sets; from += 3) {
            for (int w = -1; w <= 2; w++) {
                int to = sets - 1 - from;
                DUE.is(name + "way(" + from + ", " + to + ", " + w + ")", r.way(from, to, w), q.way(from, to, w));
            }
        }
        for (int k = -1; k <= 5; k++) {
            DUE.is(name + "even(" + k + ")", r.even(k), q.even(k));
            for (int w = -1; w <= 2; w++) {
                DUE.is(name + "chain(" + k + ", " + w + ")", r.chain(k, w), q.chain(k, w));
            }
        }
        for (int p = -1; p <= 11; p++) {
            for (int w = -1; w <= 2; w++) {
                DUE.is(name + "places(" + p + ", " + w + ")", r.places(p, w), q.places(p, w));
            }
        }
        DUE.is(name + "digest()", r.digest(), q.digest());
    }
}
