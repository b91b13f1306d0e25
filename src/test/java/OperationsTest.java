/**
 * The terms' first passage: what each operation does, where the interpreter does it, where a trace
 * does it in its head or its body, and where it is folded.
 */
final class OperationsTest {
    private static final int MIN = Integer.MIN_VALUE;
    private static final int MAX = Integer.MAX_VALUE;

    public static void main(String[] args) {
        Due.test("LOCALS 0 .. 5 are ints", OperationsTest::localsAreInts);
        Due.test("1 LOAD l, 2 STORE l", OperationsTest::loadAndStore);
        Due.test("3 ADD", () -> gives("ADD", 3, -5, -2));
        Due.test("4 SUB", () -> gives("SUB", 3, -5, 8));
        Due.test("5 MUL", () -> gives("MUL", -7, 6, -42));
        Due.test("6 AND", OperationsTest::and);
        Due.test("7 LESS (1 or 0)", OperationsTest::less);
        Due.test("8 EQUAL (1 or 0)", OperationsTest::equal);
        Due.test("take b, then a, give a op b", OperationsTest::firstBThenA);
        Due.test("(they wrap)", OperationsTest::wraps);
        Due.test("(they wrap): also where numbers are folded", OperationsTest::foldedWraps);
        Due.test("9 DUP", () -> moves("CONST 1, CONST 2, DUP", 2, 2, 1));
        Due.test("10 DROP", () -> moves("CONST 1, CONST 2, CONST 3, DROP", 2, 1));
        Due.test("11 SWAP", () -> moves("CONST 1, CONST 2, CONST 3, SWAP", 2, 3, 1));
        Due.test("12 OUT (takes a number, and gives it out)", OperationsTest::out);
        Due.test("13 GOTO t", OperationsTest::goTo);
        Due.test("14 IF t (takes a number; goes to t, if it is not 0)", OperationsTest::ifNotZero);
        Due.test("14 IF t: whatever number it is that is not 0", OperationsTest::anyNumberButZero);
        Due.test("15 HALT: HALT ends the program.", OperationsTest::halt);
        Due.finish();
    }

    /** By the interpreter, in a head (both locals stay) and in a body (local 0 does not). */
    private static void gives(String operation, int a, int b, int want) {
        String what = a + " " + operation + " " + b;
        TraceTier plain = Due.run(3, a, b, "LOAD 0, LOAD 1, " + operation + ", HALT");
        Due.stack(what, plain, want);
        TraceTier head = Due.run(21, a, b, "LOAD 0, LOAD 1, " + operation + ", OUT, GOTO 0");
        Due.trace(what + " in a head", head, 0, 0, 1, 0, 0, 1, 6);
        Due.outs(what + " in a head", head, want, want, want, want, want);
        TraceTier body = Due.run(37, a, b,
            "LOAD 0, LOAD 1, " + operation + ", OUT, LOAD 0, LOAD 3, SUB, STORE 0, GOTO 0");
        Due.trace(what + " in a body", body, 0, 0, 0, 2, 0, 1, 5);
        Due.outs(what + " in a body", body, want, want, want, want, want);
    }

    private static void localsAreInts() {
        int[] edges = {MIN, MAX, -1, 0, 65536};
        for (int number : edges) {
            TraceTier x = Due.run(2, number, 0, "LOAD 0, STORE 5, HALT");
            Due.locals("carried", x, number, 0, 0, 0, 0, number);
        }
    }

    private static void loadAndStore() {
        String code = "CONST 10, STORE 0, CONST 11, STORE 1, CONST 12, STORE 2, CONST 13, STORE 3, CONST 14, STORE 4, "
            + "CONST 15, STORE 5, LOAD 5, LOAD 4, LOAD 3, LOAD 2, LOAD 1, LOAD 0, HALT";
        TraceTier x = Due.run(18, 0, 0, code);
        Due.locals("STORE", x, 10, 11, 12, 13, 14, 15);
        Due.stack("LOAD", x, 10, 11, 12, 13, 14, 15);
        TraceTier y = Due.run(3, 7, 8, "LOAD 0, LOAD 1, STORE 2, HALT");
        Due.stack("STORE takes one", y, 7);
    }

    private static void and() {
        gives("AND", 12, 10, 8);
        gives("AND", -1, -8, -8);
        gives("AND", MIN, MAX, 0);
        gives("AND", 2, 1, 0);
    }

    private static void less() {
        gives("LESS", 2, 3, 1);
        gives("LESS", 3, 3, 0);
        gives("LESS", 4, 3, 0);
        gives("LESS", -1, 0, 1);
        gives("LESS", MIN, MAX, 1);
        gives("LESS", MAX, MIN, 0);
        gives("LESS", MIN, 1, 1);
        gives("LESS", MAX, -1, 0);
    }

    private static void equal() {
        gives("EQUAL", 1000000, 1000000, 1);
        gives("EQUAL", 1, 2, 0);
        gives("EQUAL", 2, 1, 0);
        gives("EQUAL", MIN, MIN, 1);
        gives("EQUAL", MIN, MAX, 0);
        gives("EQUAL", 0, 65536, 0);
    }

    private static void firstBThenA() {
        gives("SUB", 10, 3, 7);
        gives("LESS", 10, 3, 0);
        TraceTier folded = Due.traced("CONST 10, CONST 3, SUB, OUT, CONST 10, CONST 3, LESS, OUT");
        folded.run(1);
        Due.same("folded SUB", folded.out(1), 7);
        Due.same("folded LESS", folded.out(0), 0);
    }

    private static void wraps() {
        gives("ADD", MAX, 1, MIN);
        gives("ADD", MIN, -1, MAX);
        gives("ADD", MIN, MIN, 0);
        gives("SUB", MIN, 1, MAX);
        gives("SUB", MAX, -1, MIN);
        gives("SUB", 0, MIN, MIN);
        gives("MUL", 65536, 65537, 65536);
        gives("MUL", MIN, -1, MIN);
        gives("MUL", MAX, MAX, 1);
    }

    /** The square of -32768 is a power of 2, whose double and whose product with 4 wrap. */
    private static void foldedWraps() {
        TraceTier x = Due.traced("CONST -32768, DUP, MUL, DUP, ADD, DUP, OUT, CONST 1, SUB, OUT, "
            + "CONST -32768, DUP, MUL, CONST 4, MUL, OUT");
        Due.trace("all is folded", x, 0, 0, 0, 0, 0, 3, 6);
        x.run(1);
        Due.same("a sum", x.out(2), MIN);
        Due.same("a difference", x.out(1), MAX);
        Due.same("a product", x.out(0), 0);
    }

    /** By the interpreter, and in a trace that gives the three upper numbers out. */
    private static void moves(String code, int... stack) {
        TraceTier x = Due.run(Due.size(code), 0, 0, code + ", HALT");
        Due.stack(code, x, stack);
        StringBuilder loop = new StringBuilder(code);
        for (int k = 0; k < stack.length; k++) {
            loop.append(", OUT");
        }
        TraceTier y = Due.traced(loop.toString());
        y.run(1);
        for (int k = 0; k < stack.length; k++) {
            Due.same(code + " in a trace", y.out(stack.length - 1 - k), stack[k]);
        }
    }

    private static void out() {
        TraceTier x = Due.run(3, 0, 0, "CONST 1, CONST -9, OUT, HALT");
        Due.outs("given out", x, -9);
        Due.stack("taken", x, 1);
    }

    private static void goTo() {
        TraceTier x = Due.begun(0, 0, "GOTO 2, HALT, GOTO 1");
        x.run(1);
        Due.same("forward", x.count(0), 2);
        x.run(1);
        Due.same("back", x.count(0), 1);
        TraceTier y = Due.run(1, 0, 0, "GOTO 0");
        Due.same("to itself", y.count(0), 0);
    }

    private static void ifNotZero() {
        String code = "CONST 5, LOAD 0, IF 4, HALT, HALT";
        TraceTier zero = Due.run(3, 0, 0, code);
        Due.same("0 goes on", zero.count(0), 3);
        Due.stack("0 is taken", zero, 5);
        TraceTier one = Due.run(3, 1, 0, code);
        Due.same("1 goes to t", one.count(0), 4);
        Due.stack("1 is taken", one, 5);
    }

    private static void anyNumberButZero() {
        int[] numbers = {1, -1, 2, 256, 65536, MIN, MAX};
        for (int number : numbers) {
            TraceTier x = Due.run(2, number, 0, "LOAD 0, IF 3, HALT, HALT");
            Due.same("IF on " + number, x.count(0), 3);
        }
    }

    private static void halt() {
        TraceTier x = Due.begun(1, 2, "CONST 4, HALT, OUT, HALT");
        Due.same("two steps", x.run(500), 2);
        Due.same("no next one", x.count(0), TraceTier.NONE);
        Due.stack("the stack is left", x, 4);
        Due.locals("the locals are left", x, 1, 2);
        Due.same("it stays so", x.run(500), 0);
        Due.outs("nothing is given out", x);
    }
}
