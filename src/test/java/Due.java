import java.util.function.Consumer;

/** What the tests share: a sentence with its test, comparing answers, and code written as text. */
final class Due {
    static final int CONST = 0;
    static final int LOAD = 1;
    static final int STORE = 2;
    static final int ADD = 3;
    static final int SUB = 4;
    static final int MUL = 5;
    static final int AND = 6;
    static final int LESS = 7;
    static final int EQUAL = 8;
    static final int DUP = 9;
    static final int DROP = 10;
    static final int SWAP = 11;
    static final int OUT = 12;
    static final int GOTO = 13;
    static final int IF = 14;
    static final int HALT = 15;

    private static final String[] NAMES = {
        "CONST", "LOAD", "STORE", "ADD", "SUB", "MUL", "AND", "LESS", "EQUAL", "DUP", "DROP", "SWAP", "OUT", "GOTO",
        "IF", "HALT"};

    private static int wrong = 0;
    private static int tests = 0;

    private Due() {
    }

    /** The test of one sentence of the document; what it throws is a fault, and the next ones are still run. */
    static void test(String sentence, Runnable test) {
        int before = wrong;
        tests++;
        try {
            test.run();
        } catch (RuntimeException e) {
            fail("the test ended with " + e);
        }
        if (wrong > before) {
            System.out.println("  BROKEN: " + sentence);
        }
    }

    static void same(String what, long got, long want) {
        if (got != want) {
            fail(what + " answered " + got + ", due is " + want);
        }
    }

    static void same(String what, String got, String want) {
        if (!got.equals(want)) {
            fail(what + " shows\n    " + got + ", due is\n    " + want);
        }
    }

    static void isTrue(String what, boolean got) {
        if (!got) {
            fail(what + " does not hold");
        }
    }

    static void isFalse(String what, boolean got) {
        isTrue("not " + what, !got);
    }

    static void fail(String text) {
        wrong++;
        System.out.println(text);
    }

    /** That a call throws exactly this; that it changes nothing is asked by Refused. */
    static void index(String what, TraceTier x, Consumer<TraceTier> call) {
        throwsExactly(what, x, call, IndexOutOfBoundsException.class);
    }

    static void throwsExactly(String what, TraceTier x, Consumer<TraceTier> call, Class<?> due) {
        try {
            call.accept(x);
        } catch (RuntimeException e) {
            if (e.getClass() != due) {
                fail(what + " throws " + e.getClass().getName() + ", due is " + due.getName());
            }
            return;
        }
        fail(what + " throws nothing, due is " + due.getName());
    }

    /** A new object with this code, as in "LOAD 0, CONST 1, ADD, STORE 0, GOTO 0". */
    static TraceTier with(String code) {
        TraceTier x = new TraceTier();
        append(x, code);
        return x;
    }

    static void append(TraceTier x, String code) {
        if (code.isEmpty()) {
            return;
        }
        for (String instruction : code.split(", ")) {
            String[] parts = instruction.split(" ");
            x.add(operation(parts[0]), parts.length > 1 ? Integer.parseInt(parts[1]) : 0);
        }
    }

    static TraceTier begun(int a, int b, String code) {
        TraceTier x = with(code);
        x.begin(a, b, true);
        return x;
    }

    /** Begun, and so many steps made. */
    static TraceTier run(int steps, int a, int b, String code) {
        TraceTier x = begun(a, b, code);
        same("the steps that lead there", x.run(steps), steps);
        return x;
    }

    /** How many instructions a code is. */
    static int size(String code) {
        return code.split(", ").length;
    }

    /** A straight loop from 0, locals 0 and 1 being 6 and 7, behind the round that made its trace. */
    static TraceTier traced(String body) {
        String code = body + ", GOTO 0";
        TraceTier x = run(4 * size(code), 6, 7, code);
        same(body + ": traces", x.count(5), 1);
        return x;
    }

    /** What trace(t, 0 .. 5) answers. */
    static void trace(String what, TraceTier x, int t, int... want) {
        for (int w = 0; w < want.length; w++) {
            same(what + ": trace(" + t + ", " + w + ")", x.trace(t, w), want[w]);
        }
    }

    /** What count(0 .. 6) answers. */
    static void counts(String what, TraceTier x, int... want) {
        for (int w = 0; w < want.length; w++) {
            same(what + ": count(" + w + ")", x.count(w), want[w]);
        }
    }

    static void place(String what, TraceTier x, int i, int count, int mark) {
        same(what + ": place(" + i + ", 0)", x.place(i, 0), count);
        same(what + ": place(" + i + ", 1)", x.place(i, 1), mark);
    }

    static void locals(String what, TraceTier x, int... want) {
        for (int l = 0; l < want.length; l++) {
            same(what + ": local(" + l + ")", x.local(l), want[l]);
        }
    }

    /** The whole stack, its top first. */
    static void stack(String what, TraceTier x, int... want) {
        for (int k = 0; k < want.length; k++) {
            same(what + ": top(" + k + ")", x.top(k), want[k]);
        }
        index(what + ": top(" + want.length + ")", x, y -> y.top(want.length));
    }

    /** All that was given out, the latest first. */
    static void outs(String what, TraceTier x, int... want) {
        same(what + ": outs()", x.outs(), want.length);
        for (int k = 0; k < want.length; k++) {
            same(what + ": out(" + k + ")", x.out(k), want[k]);
        }
    }

    static void finish() {
        System.out.println(tests + " sentences");
        if (wrong != 0) {
            System.out.println(wrong + " answers are not as due");
            System.exit(1);
        }
    }

    private static int operation(String name) {
        for (int o = 0; o < NAMES.length; o++) {
            if (NAMES[o].equals(name)) {
                return o;
            }
        }
        throw new AssertionError(name);
    }
}
