import java.util.function.Supplier;
import java.util.function.ToIntFunction;

/** Arrangements that the tests begin with, and what can be seen of an object. */
abstract class Bench {
    static final int NONE = -1, BAD = -2, NO = -3, FULL = -4, BEYOND = -5;
    static final int LEAST = Integer.MIN_VALUE, MOST = Integer.MAX_VALUE;

    static PlaneCuts made(int dimensions, int kind) {
        PlaneCuts x = new PlaneCuts();
        x.space(dimensions);
        x.makes(kind);
        return x;
    }

    /** One row of four coefficients for each hyperplane. */
    static PlaneCuts with(int dimensions, int... rows) {
        PlaneCuts x = new PlaneCuts();
        x.space(dimensions);
        for (int k = 0; k < rows.length; k += 4) {
            surely(x.plane(rows[k], rows[k + 1], rows[k + 2], rows[k + 3]), k / 4);
        }
        return x;
    }

    private static void surely(int got, int want) {
        if (got != want) {
            throw new IllegalStateException("a test cannot begin: " + got + " in place of " + want);
        }
    }

    /** Five lines of the plane, each two of them independent. */
    static PlaneCuts fiveLines() {
        return with(2, 1, 0, 0, 0, 0, 1, 0, 0, 1, 1, 0, 0, 1, -1, 0, 0, 1, 2, 0, 0);
    }

    static PlaneCuts nineLines() {
        return with(2, 1, 0, 0, 0, 0, 1, 0, 0, 1, 1, 0, 0, 1, -1, 0, 0, 1, 2, 0, 0, 2, 1, 0, 0, 1, -2, 0, 0, 2, -1, 0, 0, 1, 3, 0, 0);
    }

    /** Four planes, each three of them independent. */
    static PlaneCuts fourGeneric() {
        return with(3, 1, 0, 0, 0, 0, 1, 0, 0, 0, 0, 1, 0, 1, 1, 1, 0);
    }

    /** Nine planes, each three of them independent. */
    static PlaneCuts ninePlanes() {
        return with(3, 1, 0, 0, 0, 0, 1, 0, 0, 0, 0, 1, 0, 1, 1, 1, 0, 2, 1, -1, 0,
                1, -2, -3, 0, 1, 3, -2, 0, 3, -3, 1, 0, 3, 2, -3, 0);
    }

    /** Nine hyperplanes in four dimensions, each four of them independent. */
    static PlaneCuts nineGeneric() {
        return with(4, 1, 0, 0, 0, 0, 1, 0, 0, 0, 0, 1, 0, 0, 0, 0, 1,
                -2, 1, 3, 3, 3, -3, -1, -3, -1, 2, 3, -2, -3, -3, 2, 1, 1, 2, -2, 3);
    }

    /** The first hyperplanes of nine in four dimensions. */
    static PlaneCuts firstOfNine(int many) {
        PlaneCuts x = nineGeneric();
        for (int size = 8; size >= many; size--) {
            surely(x.drops(size), size);
        }
        return x;
    }

    /** The wrong sets for so many hyperplanes: just too great, with one bit too many, negative, far off. */
    static int[] wrongSets(int many) {
        return new int[] {1 << many, 1 << many | 1, (2 << many) - 1, -1, LEAST, MOST};
    }

    static void types(PlaneCuts x, String text) {
        int had = x.told(3);
        for (int k = 0; k < text.length(); k++) {
            surely(x.type(text.charAt(k)), had + k + 1);
        }
    }

    static int read(PlaneCuts x, String text) {
        x.clear();
        types(x, text);
        return x.reads();
    }

    /** The coefficients, as "1 0 0, 0 1 0". */
    static String rows(PlaneCuts x) {
        StringBuilder found = new StringBuilder();
        int many = x.told(5);
        int dimensions = x.told(4);
        for (int i = 0; i < many; i++) {
            found.append(i == 0 ? "" : ", ");
            for (int j = 0; j < dimensions; j++) {
                found.append(j == 0 ? "" : " ").append(x.of(i, j) - 10);
            }
        }
        return found.toString();
    }

    /** How often BAD, NO and FULL were returned. */
    static String counts(PlaneCuts x) {
        return x.told(0) + " " + x.told(1) + " " + x.told(2);
    }

    /** All that an object can still tell but for its counts of errors; it is of no use afterwards. */
    static String story(PlaneCuts x) {
        StringBuilder told = new StringBuilder();
        told.append(x.told(3)).append(' ').append(x.told(6)).append(' ').append(x.told(7));
        told.append(" why ").append(x.why(0)).append(' ').append(x.why(1));
        told.append(" regions ").append(x.parts(NONE));
        told.append(" in ").append(x.told(4)).append(": ").append(rows(x));
        told.append(" back");
        for (int left = x.told(7); left > 0; left--) {
            told.append(' ').append(x.back()).append(": ").append(x.told(4)).append(": ").append(rows(x));
        }
        told.append(" reads ").append(x.reads()).append(' ').append(x.told(4)).append(": ").append(rows(x));
        told.append(" clear ").append(x.clear());
        return told.toString();
    }

    /** A refused call answers its error, which is counted once, and leaves all else as it was. */
    static void refused(Due due, String call, Supplier<PlaneCuts> maker, ToIntFunction<PlaneCuts> asked, int error) {
        PlaneCuts x = maker.get();
        PlaneCuts untouched = maker.get();
        due.is(call, asked.applyAsInt(x), error);
        for (int what = 0; what < 3; what++) {
            int more = error == BAD - what ? 1 : 0;
            due.is(call + ": told(" + what + ")", x.told(what), untouched.told(what) + more);
        }
        due.is(call + ": what can be told", story(x), story(untouched));
    }

    static long mixed(long... numbers) {
        long h = 2351;
        for (long v : numbers) {
            h = 31 * h + v;
        }
        return h;
    }
}
