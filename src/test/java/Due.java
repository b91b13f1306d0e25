/** What the tests share: comparing answers, expecting exceptions, and the operations by name. */
final class Due {
    static final int CONST = 0;
    static final int LOAD = 1;
    static final int STORE = 2;
    static final int ADD = 3;
    static final int SUB = 4;
    static final int MUL = 5;
    static final int AND = 6;
    static final int LESS = 7;
    static final int EQUAL = 8;
    static final int DUP = 9;
    static final int DROP = 10;
    static final int SWAP = 11;
    static final int OUT = 12;
    static final int GOTO = 13;
    static final int IF = 14;
    static final int HALT = 15;

    private static int wrong = 0;

    private Due() {
    }

    /** A call of the face that may throw. */
    interface Call {
        void make();
    }

    static void same(String what, long got, long want) {
        if (got != want) {
            fail(what + " answered " + got + ", due is " + want);
        }
    }

    static void isTrue(String what, boolean got) {
        if (!got) {
            fail(what + " does not hold");
        }
    }

    static void argument(String what, Call call) {
        throwsExactly(what, call, IllegalArgumentException.class);
    }

    static void state(String what, Call call) {
        throwsExactly(what, call, IllegalStateException.class);
    }

    static void index(String what, Call call) {
        throwsExactly(what, call, IndexOutOfBoundsException.class);
    }

    static void fail(String text) {
        wrong++;
        System.out.println(text);
    }

    /** A new object with this code: an operation and its operand, by turns. */
    static TraceTier with(int... code) {
        TraceTier x = new TraceTier();
        append(x, code);
        return x;
    }

    static void append(TraceTier x, int... code) {
        for (int i = 0; i < code.length; i += 2) {
            x.add(code[i], code[i + 1]);
        }
    }

    static TraceTier begun(int a, int b, int... code) {
        TraceTier x = with(code);
        x.begin(a, b, true);
        return x;
    }

    /** What trace(t, 0 .. 5) and count(0 .. 6) answer. */
    static void trace(String what, TraceTier x, int t, int... want) {
        for (int w = 0; w < want.length; w++) {
            same(what + ": trace(" + t + ", " + w + ")", x.trace(t, w), want[w]);
        }
    }

    static void counts(String what, TraceTier x, int... want) {
        for (int w = 0; w < want.length; w++) {
            same(what + ": count(" + w + ")", x.count(w), want[w]);
        }
    }

    static void place(String what, TraceTier x, int i, int count, int mark) {
        same(what + ": place(" + i + ", 0)", x.place(i, 0), count);
        same(what + ": place(" + i + ", 1)", x.place(i, 1), mark);
    }

    static void finish() {
        if (wrong != 0) {
            System.out.println(wrong + " answers are not as due");
            System.exit(1);
        }
    }

    private static void throwsExactly(String what, Call call, Class<?> due) {
        try {
            call.make();
        } catch (RuntimeException e) {
            if (e.getClass() != due) {
                fail(what + " throws " + e.getClass().getName() + ", due is " + due.getName());
            }
            return;
        }
        fail(what + " throws nothing, due is " + due.getName());
    }
}
