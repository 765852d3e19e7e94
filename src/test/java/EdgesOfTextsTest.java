import java.util.function.IntPredicate;
import java.util.function.Supplier;

/** The boundary cases of TEXTS and of the promises 26 to 29, 31 and 32, each sentence with a test of its own. */
public final class EdgesOfTextsTest extends Bench {
    private static final Due DUE = new Due("EdgesOfTextsTest");

    public static void main(String[] args) {
        type();
        clear();
        oneOrMoreCommands();
        commandsLikeCalls();
        asManyNumbersAsDimensions();
        digitsAndSigns();
        spaces();
        errorPositions();
        allowedAfterD();
        endsTooEarly();
        readsOneChange();
        readsWithAnError();
        readsFails();
        readsAnswers();
        why();
        told();
        toldCounts();
        digest();
        digestOfTheGreatest();
        DUE.end();
    }

    /** In three dimensions, without hyperplanes. */
    private static void isRead(String text, int answer) {
        PlaneCuts x = new PlaneCuts();
        DUE.is("reads() of '" + text + "'", read(x, text), answer);
        DUE.is("the text stays", x.told(3), text.length());
    }

    private static void hasError(String text, int position) {
        isRead(text, -10 - position);
    }

    // ---- promises 26 and 27

    private static void type() {
        DUE.sentence("a text of at most 100 bytes, which is empty at first");
        PlaneCuts x = new PlaneCuts();
        DUE.is("empty at first", x.told(3), 0);
        for (int many = 1; many <= 100; many++) {
            DUE.is("type", x.type(' '), many);
        }
        DUE.is("one more", x.type(' '), FULL);
        DUE.is("100 bytes", x.told(3), 100);
        DUE.sentence("Promise 26: Appends a byte to the text (0 to 127)");
        for (int c : new int[] {0, 1, 32, 59, 126, 127}) {
            DUE.is("type(" + c + ")", new PlaneCuts().type(c), 1);
        }
        DUE.sentence("Promise 26: Returns how many bytes the text has then");
        PlaneCuts y = new PlaneCuts();
        DUE.is("the first", y.type('m'), 1);
        DUE.is("the second", y.type('0'), 2);
        DUE.is("the third", y.type(';'), 3);
        DUE.is("read as appended", y.reads(), 1);
        DUE.is("the fourth, as the text stays", y.type('x'), 4);
        DUE.is("read as appended", y.reads(), -14);
        DUE.sentence("Promise 26: BAD if c is out of range");
        for (int c : new int[] {-1, 128, 129, 255, 256, 256 + 'd', LEAST, MOST}) {
            refused(DUE, "type(" + c + ")", PlaneCuts::new, z -> z.type(c), BAD);
            refused(DUE, "type(" + c + ")", () -> typed("d2;p1"), z -> z.type(c), BAD);
        }
        DUE.sentence("Promise 26: FULL if it has 100 bytes");
        DUE.is("with 99", typed(" ".repeat(96) + "m1;").type(' '), 100);
        Supplier<PlaneCuts> full = () -> typed(" ".repeat(97) + "m1;");
        for (int c : new int[] {0, 'x', 127}) {
            refused(DUE, "type(" + c + ")", full, z -> z.type(c), FULL);
        }
        PlaneCuts emptied = full.get();
        emptied.type(' ');
        emptied.clear();
        DUE.is("no more after clear()", emptied.type(' '), 1);
    }

    private static PlaneCuts typed(String text) {
        PlaneCuts x = new PlaneCuts();
        types(x, text);
        return x;
    }

    private static void clear() {
        DUE.sentence("Promise 27: Empties the text");
        PlaneCuts x = typed("d2;t0;");
        x.clear();
        DUE.is("told(3)", x.told(3), 0);
        DUE.is("nothing to read", x.reads(), -10);
        types(x, "m");
        DUE.is("nothing behind the new bytes", x.reads(), -11);
        types(x, "0;");
        DUE.is("the new bytes alone", x.reads(), 1);
        DUE.is("D is not set", x.told(4), 3);
        DUE.sentence("Promise 27: Returns how many bytes it had");
        DUE.is("none", new PlaneCuts().clear(), 0);
        DUE.is("one", typed("?").clear(), 1);
        DUE.is("99", typed("?".repeat(99)).clear(), 99);
        PlaneCuts full = typed("?".repeat(100));
        DUE.is("100", full.clear(), 100);
        DUE.is("none any more", full.clear(), 0);
        DUE.is("no error", counts(full), "0 0 0");
        DUE.is("no change", full.told(7), 0);
    }

    // ---- TEXTS

    private static void oneOrMoreCommands() {
        DUE.sentence("It consists of one or more commands, each followed by a semicolon");
        isRead("d3;", 1);
        isRead("d3;d4;", 2);
        isRead("d3;".repeat(33), 33);
        hasError("", 0);
        hasError(";", 0);
        hasError("d3", 2);
        hasError("d3;d4", 5);
        hasError("d3d4;", 2);
        hasError("d3;;", 3);
        hasError("d3;;d4;", 3);
        hasError(";d3;", 0);
        hasError("d3,d4;", 2);
    }

    private static void commandsLikeCalls() {
        DUE.sentence("d n (like space); p and D numbers (like plane, with 0 for the further ones); t i (turns); x i (drops); s i j (swaps); m k (makes)");
        PlaneCuts x = new PlaneCuts();
        DUE.is("d", read(x, "d2;"), 1);
        DUE.is("like space", x.told(4), 2);
        DUE.is("p", read(x, "p-31;"), 1);
        DUE.is("like plane", rows(x), "-3 1");
        DUE.is("m", read(x, "m3;"), 1);
        DUE.is("like makes", rows(x), "1 0, 0 1, 1 -1, 1 1");
        DUE.is("t", read(x, "t2;"), 1);
        DUE.is("like turns", rows(x), "1 0, 0 1, -1 1, 1 1");
        DUE.is("s", read(x, "s03;"), 1);
        DUE.is("like swaps", rows(x), "1 1, 0 1, -1 1, 1 0");
        DUE.is("x", read(x, "x1;"), 1);
        DUE.is("like drops", rows(x), "1 1, -1 1, 1 0");
        DUE.is("d with hyperplanes", read(x, "d2;"), 1);
        DUE.is("removes all", x.told(5), 0);
        DUE.is("p with 0 for the further ones", read(x, "d4;p1111;d2;p11;"), 4);
        DUE.is("in a greater space", read(x, "d4;p0001;p1000;"), 3);
        DUE.is("no trace of the earlier ones", rows(x), "0 0 0 1, 1 0 0 0");
    }

    private static void asManyNumbersAsDimensions() {
        DUE.sentence("p and D numbers, with D as it is by then");
        for (int d = 2; d <= 4; d++) {
            String numbers = "1234".substring(0, d).replace('4', '0');
            PlaneCuts x = with(d);
            DUE.is("D as it is", read(x, "p" + numbers + ";"), 1);
            DUE.is("one too few", read(x, "p" + numbers.substring(1) + ";"), -10 - d);
            DUE.is("one too many", read(x, "p" + numbers + "1;"), -10 - d - 1);
            DUE.is("D by then", read(new PlaneCuts(), "d" + d + ";p" + numbers + ";"), 2);
            DUE.is("one too few by then", read(new PlaneCuts(), "d" + d + ";p" + numbers.substring(1) + ";"), -10 - 3 - d);
            DUE.is("one too many by then", read(new PlaneCuts(), "d" + d + ";p" + numbers + "0;"), -10 - 3 - d - 1);
        }
        PlaneCuts x = new PlaneCuts();
        DUE.is("D by then, changed twice", read(x, "d2;p12;d4;p1230;"), 4);
        DUE.is("D by then", read(x, "p1111;"), 1);
        DUE.is("D by then, of a text with an error, is not kept", read(x, "d2;p1111;"), -16);
        DUE.is("D by then", read(x, "p0001;"), 1);
        DUE.is("D by then, of a text that fails, is not kept", read(x, "d2;x0;"), -1001);
        DUE.is("D by then", read(x, "p0010;"), 1);
        x.back();
        x.back();
        x.back();
        x.back();
        DUE.is("D after back()", read(x, "p001;"), 1);
    }

    private static void digitsAndSigns() {
        DUE.sentence("A number is one digit, which for p may have a minus sign directly before it");
        isRead("p-1-1-1;", 1);
        isRead("p1-1 1;", 1);
        hasError("p--1 1 1;", 2);
        hasError("p1-;", 3);
        hasError("p+1 1 1;", 1);
        hasError("d-2;", 1);
        hasError("t-1;", 1);
        hasError("x-1;", 1);
        hasError("s-1 0;", 1);
        hasError("s0-1;", 2);
        hasError("m-1;", 1);
        hasError("t10;", 2);
        hasError("m01;", 2);
        hasError("d33;", 2);
        hasError("s012;", 3);
        PlaneCuts x = new PlaneCuts();
        DUE.is("least and greatest", read(x, "p-3 3-3;"), 1);
        DUE.is("held", rows(x), "-3 3 -3");
        DUE.is("0 without a sign", read(x, "p0 0 1;"), 1);
    }

    private static void spaces() {
        DUE.sentence("Spaces (32) may stand anywhere but between this sign and its digit");
        PlaneCuts x = new PlaneCuts();
        DUE.is("anywhere", read(x, "  d  4  ;  p  1  -2  3  -3  ;  t  0  ;  m  0  ;  s  0  1  ;  x  3  ;  "), 6);
        DUE.is("read", rows(x), "0 1 0 0, 1 0 0 0, 0 0 1 0");
        DUE.is("nowhere", read(x, "d4;p1-23-3;t0;m0;s01;x3;"), 6);
        DUE.is("read", rows(x), "0 1 0 0, 1 0 0 0, 0 0 1 0");
        hasError("p- 1 0 0;", 2);
        hasError("p1 -  1 0;", 4);
        hasError("d2; p 1 - 1;", 9);
        isRead(" ".repeat(97) + "d2;", 1);
        isRead("d2;" + " ".repeat(97), 1);
        isRead("d" + " ".repeat(97) + "2;", 1);
        isRead("d2" + " ".repeat(97) + ";", 1);
        DUE.sentence("Spaces (32): no other byte is one");
        for (int c : new int[] {0, 9, 10, 13, 31, 33, '_', 127}) {
            String other = String.valueOf((char) c);
            hasError(other + "d2;", 0);
            hasError("d" + other + "2;", 1);
            hasError("d2" + other + ";", 2);
            hasError("d2;" + other, 3);
        }
    }

    /** Every byte at the end of a text that is right so far; the text goes on if it is allowed. */
    private static void everyByte(String before, IntPredicate allowed) {
        for (int c = 0; c <= 127; c++) {
            PlaneCuts x = typed(before + (char) c);
            int answer = x.reads();
            if (allowed.test(c)) {
                DUE.holds("'" + before + "' and " + c + " is allowed, and not " + answer,
                        answer == -10 - before.length() - 1 || answer > 0 || answer <= -1000);
            } else {
                DUE.is("'" + before + "' and " + c, answer, -10 - before.length());
            }
        }
    }

    private static boolean isDigit(int c) {
        return c >= '0' && c <= '9';
    }

    private static void errorPositions() {
        DUE.sentence("The error position is the index of the first byte that is not allowed at its place");
        everyByte("", c -> c == ' ' || "dptxsm".indexOf(c) >= 0);
        everyByte("  ", c -> c == ' ' || "dptxsm".indexOf(c) >= 0);
        everyByte("d2;", c -> c == ' ' || "dptxsm".indexOf(c) >= 0);
        everyByte("p", c -> c == ' ' || c == '-' || isDigit(c));
        everyByte("p1", c -> c == ' ' || c == '-' || isDigit(c));
        everyByte("p1 -1 ", c -> c == ' ' || c == '-' || isDigit(c));
        everyByte("p123", c -> c == ' ' || c == ';');
        everyByte("d2;p12", c -> c == ' ' || c == ';');
        everyByte("d4;p123", c -> c == ' ' || c == '-' || isDigit(c));
        everyByte("t", c -> c == ' ' || isDigit(c));
        everyByte("x", c -> c == ' ' || isDigit(c));
        everyByte("m", c -> c == ' ' || isDigit(c));
        everyByte("s", c -> c == ' ' || isDigit(c));
        everyByte("s0", c -> c == ' ' || isDigit(c));
        everyByte("s01", c -> c == ' ' || c == ';');
        everyByte("t0", c -> c == ' ' || c == ';');
        everyByte("m0 ", c -> c == ' ' || c == ';');
        DUE.sentence("the first byte that is not allowed: of several");
        hasError("d1;q;", 1);
        hasError("q1??", 0);
        hasError("d2;p1;p;", 5);
    }

    private static void allowedAfterD() {
        DUE.sentence("after d only 2 to 4 are allowed");
        everyByte("d", c -> c == ' ' || c >= '2' && c <= '4');
        everyByte("d ", c -> c == ' ' || c >= '2' && c <= '4');
        isRead("d2;", 1);
        isRead("d4;", 1);
        hasError("d1;", 1);
        hasError("d5;", 1);
        DUE.sentence("after a minus sign only 1 to 9");
        everyByte("p-", c -> c >= '1' && c <= '9');
        everyByte("p1 2-", c -> c >= '1' && c <= '9');
        hasError("p-0 1 1;", 2);
        isRead("p-1 1 1;", 1);
        isRead("p-9 1 1;", -1000);
        DUE.sentence("other numbers may be any digit");
        for (int digit = 0; digit <= 9; digit++) {
            isRead("m" + digit + ";", digit <= 3 ? 1 : -1000);
            isRead("m3;t" + digit + ";", digit <= 8 ? 2 : -1001);
            isRead("m3;x" + digit + ";", digit <= 8 ? 2 : -1001);
            isRead("m3;s" + digit + "1;", digit <= 8 && digit != 1 ? 2 : -1001);
            isRead("m3;s1" + digit + ";", digit <= 8 && digit != 1 ? 2 : -1001);
            isRead("p1" + digit + "0;", digit <= 3 ? 1 : -1000);
        }
    }

    private static void endsTooEarly() {
        DUE.sentence("It is the length of the text if the text ends too early");
        String text = " d 4;p1-2 3 -3; t0;s 0 1 ;";
        for (int length = 0; length < text.length(); length++) {
            String begun = text.substring(0, length);
            String trimmed = begun.stripTrailing();
            PlaneCuts x = typed(begun);
            if (trimmed.endsWith(";")) {
                DUE.holds("whole commands: '" + begun + "'", x.reads() > 0);
            } else {
                DUE.is("'" + begun + "'", x.reads(), -10 - length);
            }
        }
        hasError("d2;".repeat(33) + "d", 100);
        hasError("d2;".repeat(32) + "d2", 98);
        hasError("d" + " ".repeat(99), 100);
        DUE.sentence("also if it is empty or has only spaces");
        for (int many : new int[] {0, 1, 2, 50, 99, 100}) {
            hasError(" ".repeat(many), many);
        }
    }

    // ---- promise 28

    private static void readsOneChange() {
        DUE.sentence("Promise 28: Executes the commands of the text, which stays. All of them together are one change");
        PlaneCuts x = made(3, 0);
        DUE.is("four commands", read(x, "x0;x0;p111;t0;"), 4);
        DUE.is("read", rows(x), "0 0 -1, 1 1 1");
        DUE.is("the text", x.told(3), 14);
        DUE.is("one change", x.told(7), 3);
        DUE.is("undone at once", x.back(), 2);
        DUE.is("as it was", rows(x), "1 0 0, 0 1 0, 0 0 1");
        DUE.is("read again", x.reads(), 4);
        DUE.is("and once more", x.reads(), 4);
        DUE.is("read", rows(x), "-1 -1 -1");
        DUE.is("and once more, which fails", x.reads(), -1001);
        DUE.is("the text", x.told(3), 14);
        PlaneCuts many = with(2);
        DUE.is("33 commands", read(many, "d2;".repeat(33)), 33);
        DUE.is("one change", many.told(7), 2);
        DUE.is("a seventh change", seventh().told(7), 6);
    }

    private static PlaneCuts seventh() {
        PlaneCuts x = new PlaneCuts();
        for (int k = 0; k < 6; k++) {
            x.makes(k % 4);
        }
        read(x, "m0;");
        return x;
    }

    private static void readsWithAnError() {
        DUE.sentence("Promise 28: If the text has an error, nothing is executed");
        for (String text : new String[] {"", " ", "d2;d", "x0;t0;x0;?", "m1;m1", "d4;p111;", "x9;x9;x"}) {
            unchanged("with an error: " + text, text);
        }
        DUE.sentence("Promise 28: If the text has an error: also behind a command that would fail");
        PlaneCuts x = made(3, 0);
        DUE.is("reads()", read(x, "x9;?"), -13);
        DUE.is("why(0)", x.why(0), 0);
        DUE.is("why(1)", x.why(1), NONE);
        DUE.sentence("Promise 28: In neither case are the errors counted that told() returns: an error of the text");
        DUE.is("counts", counts(x), "0 0 0");
    }

    /** Reads a text that does not succeed: all that can be told is as if it had only been typed. */
    private static void unchanged(String name, String text) {
        PlaneCuts x = sixChanges(text);
        PlaneCuts untouched = sixChanges(text);
        int first = x.reads();
        DUE.holds(name + " is not executed", first <= -10);
        DUE.is(name + ": counts", counts(x), counts(untouched));
        if (first > -1000) {
            DUE.is(name + ": what can be told", story(x), story(untouched));
            return;
        }
        // What a failed command leaves behind is what why() tells; so the other object fails as well.
        untouched.reads();
        DUE.is(name + ": read again", x.reads(), first);
        DUE.is(name + ": rows", x.told(4) + ": " + rows(x), "3: 1 -1 0, 1 0 -1, 0 1 -1");
        DUE.is(name + ": what can be told", story(x), story(untouched));
    }

    private static PlaneCuts sixChanges(String text) {
        PlaneCuts x = new PlaneCuts();
        x.space(4);
        x.makes(0);
        x.turns(3);
        x.drops(0);
        x.swaps(0, 2);
        x.plane(1, 2, 3, 3);
        x.space(3);
        x.makes(1);
        types(x, text);
        return x;
    }

    private static void readsFails() {
        DUE.sentence("Promise 28: If a command fails, as its method would return an error, all is as it was before the call");
        String[] texts = {"p000;", "p400;", "p-900;", "p-220;", "x0;p0-11;", "m3;p123;", "m3;p001;", "m3;p444;", "t3;", "t0;x0;t2;", "x3;",
            "x0;x0;x0;x0;", "s03;", "s30;", "s11;", "m4;", "d4;m2;d2;m0;t0;x0;p12;s02;", "d2;m9;"};
        int[] index = {0, 0, 0, 0, 1, 1, 1, 1, 0, 2, 0, 3, 0, 0, 0, 0, 7, 1};
        int[] error = {2, 2, 2, 3, 3, 4, 3, 2, 2, 2, 2, 2, 2, 2, 2, 2, 2, 2};
        for (int k = 0; k < texts.length; k++) {
            PlaneCuts x = sixChanges(texts[k]);
            DUE.is("reads() of " + texts[k], x.reads(), -1000 - index[k]);
            DUE.is("why(0) of " + texts[k], x.why(0), error[k]);
            DUE.is("why(1) of " + texts[k], x.why(1), index[k]);
            DUE.is("kept", x.told(7), 6);
            unchanged("a command fails: " + texts[k], texts[k]);
        }
        DUE.sentence("Promise 28: In neither case are the errors counted that told() returns: a command that fails");
        for (String text : texts) {
            PlaneCuts x = sixChanges(text);
            x.reads();
            DUE.is("counts after " + text, counts(x), "0 0 0");
        }
        DUE.sentence("the index, from 0, of the command that fails: of several the first");
        isRead("m0;t3;x9;", -1001);
        isRead("t0;t0;t0;", -1000);
    }

    private static void readsAnswers() {
        DUE.sentence("Promise 28: Returns the number of commands; -10 minus the error position; or -1000 minus the index");
        isRead("m0;", 1);
        isRead("t9;".repeat(33), -1000);
        isRead("m0;".repeat(33), 33);
        isRead("m0;".repeat(33) + " ", 33);
        isRead("m0;".repeat(32) + "t3;", -1032);
        isRead("m0;".repeat(32) + " t3;", -1032);
        hasError("?", 0);
        hasError("m0;".repeat(33) + "?", 99);
        hasError("m0;".repeat(33) + "t", 100);
        hasError(" ".repeat(99) + "?", 99);
        hasError(" ".repeat(100), 100);
    }

    // ---- promise 29

    private static void why() {
        DUE.sentence("Promise 29: if there was no such command, 0 for what = 0 and NONE for what = 1");
        PlaneCuts x = new PlaneCuts();
        DUE.is("of a new object: why(0)", x.why(0), 0);
        DUE.is("of a new object: why(1)", x.why(1), NONE);
        DUE.is("a success", read(x, "m0;"), 1);
        DUE.is("an error of the text", read(x, "m0"), -12);
        x.plane(1, 0, 0, 0);
        DUE.is("still: why(0)", x.why(0), 0);
        DUE.is("still: why(1)", x.why(1), NONE);
        DUE.sentence("Promise 29: 0 for its error: 2 BAD, 3 NO, 4 FULL; 1 for its index, from 0");
        DUE.is("BAD", read(x, "t9;"), -1000);
        DUE.is("BAD: why(0)", x.why(0), 2);
        DUE.is("BAD: why(1)", x.why(1), 0);
        DUE.is("NO", read(x, "m0;p010;"), -1001);
        DUE.is("NO: why(0)", x.why(0), 3);
        DUE.is("NO: why(1)", x.why(1), 1);
        DUE.is("FULL", read(x, "d3;m3;p111;"), -1002);
        DUE.is("FULL: why(0)", x.why(0), 4);
        DUE.is("FULL: why(1)", x.why(1), 2);
        DUE.is("the last of the most", read(x, "m0;".repeat(32) + "x9;"), -1032);
        DUE.is("the last of the most: why(1)", x.why(1), 32);
        DUE.sentence("Promise 29: calls of reads() that succeed, or find an error in the text, do not change it");
        DUE.is("a success", read(x, "m1;"), 1);
        DUE.is("why after a success", x.why(0) + " " + x.why(1), "2 32");
        DUE.is("an error of the text", read(x, "x0;p"), -14);
        DUE.is("why after an error of the text", x.why(0) + " " + x.why(1), "2 32");
        DUE.is("an empty text", read(x, ""), -10);
        DUE.is("why after an empty text", x.why(0) + " " + x.why(1), "2 32");
        x.plane(1, -1, 0, 0);
        x.back();
        DUE.is("why after a refused call and back()", x.why(0) + " " + x.why(1), "2 32");
        DUE.sentence("Promise 29: BAD if what is not 0 or 1");
        for (int what : new int[] {-1, 2, 3, LEAST, MOST}) {
            refused(DUE, "why(" + what + ")", PlaneCuts::new, y -> y.why(what), BAD);
        }
    }

    // ---- promises 31 and 32

    private static void told() {
        DUE.sentence("Promise 31: 3 bytes of the text; 4 D; 5 hyperplanes; 6 the rank of all; 7 changes that are kept: the least");
        PlaneCuts none = with(2);
        none.back();
        none.space(2);
        DUE.is("the least", toldFrom3(none), "0 2 0 0 1");
        DUE.is("of a new object", toldFrom3(new PlaneCuts()), "0 3 0 0 0");
        DUE.sentence("Promise 31: 3 bytes of the text; 4 D; 5 hyperplanes; 6 the rank of all; 7 changes that are kept: the greatest");
        PlaneCuts most = nineGeneric();
        types(most, "?".repeat(100));
        DUE.is("the greatest", toldFrom3(most), "100 4 9 4 6");
        DUE.sentence("Promise 31: BAD if what is not 0 to 7");
        for (int what : new int[] {-1, 8, 9, LEAST, MOST}) {
            refused(DUE, "told(" + what + ")", PlaneCuts::new, y -> y.told(what), BAD);
            refused(DUE, "told(" + what + ")", () -> nineLines(), y -> y.told(what), BAD);
        }
    }

    private static String toldFrom3(PlaneCuts x) {
        return x.told(3) + " " + x.told(4) + " " + x.told(5) + " " + x.told(6) + " " + x.told(7);
    }

    private static void toldCounts() {
        DUE.sentence("Promise 31: how many times an error was returned: 0 BAD, 1 NO, 2 FULL");
        PlaneCuts x = new PlaneCuts();
        DUE.is("none", counts(x), "0 0 0");
        x.told(8);
        DUE.is("its own", counts(x), "1 0 0");
        x.back();
        DUE.is("NO", counts(x), "1 1 0");
        x.makes(3);
        x.plane(3, 2, 1, 0);
        DUE.is("FULL", counts(x), "1 1 1");
        x.reads();
        x.flats(0, 1);
        x.why(1);
        x.digest();
        DUE.is("no more by answers that are no errors", counts(x), "1 1 1");
    }

    private static void digest() {
        DUE.sentence("Promise 32: It starts with h = 2351: of a new object");
        DUE.is("digest()", new PlaneCuts().digest(), mixed(0, 0, 0, 0, 3, 0, 0, 0, 0, -1,
                1, 0, 0, 0, 0, 1000, 1000, 1000, 1001, 1000, 0, 1, 1, 0, 0, 0, 0));
        DUE.sentence("Promise 32: for each hyperplane i: of(i, 0) to of(i, D - 1): none, one, with the least and the greatest D");
        DUE.is("none in two", with(2).digest(), mixed(0, 0, 0, 0, 2, 0, 0, 1, 0, -1,
                1, 0, 0, 0, 0, 1000, 1000, 1001, 1000, 1000, 0, 1, 1, 0, 0, 0, 0));
        DUE.is("one in two", with(2, 3, -3, 0, 0).digest(), mixed(0, 0, 0, 0, 2, 1, 1, 2, 0, -1, 13, 7,
                1, 1, 0, 0, 0, 1000, 999, 1001, 1000, 1000, 0, 2, 1, 1, 0, 0, 0));
        DUE.is("one in four", with(4, 3, -3, 0, 1).digest(), mixed(0, 0, 0, 0, 4, 1, 1, 2, 0, -1, 13, 7, 10, 11,
                1, 1, 0, 0, 0, 1000, 1000, 1000, 999, 1001, 0, 2, 1, 1, 0, 0, 0));
        DUE.sentence("Promise 32: told(0) to told(7); why(0) and why(1)");
        PlaneCuts x = with(2, 1, 0, 0, 0);
        x.told(8);
        x.told(9);
        x.walls(2);
        x.plane(-1, 0, 0, 0);
        read(x, "t0;t1;");
        DUE.is("digest()", x.digest(), mixed(3, 1, 0, 6, 2, 1, 1, 2, 2, 1, 11, 10,
                1, 1, 0, 0, 0, 1000, 999, 1001, 1000, 1000, 0, 2, 1, 1, 0, 0, 0));
    }

    private static void digestOfTheGreatest() {
        DUE.sentence("Promise 32: sets h = 31 * h + v in long arithmetic, which wraps: of nine hyperplanes");
        PlaneCuts x = nineGeneric();
        long[] numbers = {0, 0, 0, 0, 4, 9, 4, 6, 0, -1};
        long[] after = {1, 9, 36, 84, 1, 1056, 916, 1036, 991, 1001, 126, 186, 1, 9, 36, 84, 56};
        long h = mixed(numbers);
        for (int i = 0; i < 9; i++) {
            for (int j = 0; j < 4; j++) {
                h = 31 * h + x.of(i, j);
            }
        }
        for (long v : after) {
            h = 31 * h + v;
        }
        DUE.is("digest()", x.digest(), h);
        DUE.is("again", x.digest(), h);
        DUE.is("nothing is changed", story(x), story(nineGeneric()));
    }
}
