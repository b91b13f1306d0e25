/** Promise 2: add, with the operations and operands of the terms. */
final class AddTest {
    private static final int[] WITH_FREE_OPERAND = {
        Due.ADD, Due.SUB, Due.MUL, Due.AND, Due.LESS, Due.EQUAL, Due.DUP, Due.DROP, Due.SWAP, Due.OUT, Due.HALT};

    public static void main(String[] args) {
        Due.test("One more instruction: how many there are.", AddTest::howManyThereAre);
        Due.test("IllegalArgumentException, when operation is not 0 .. 15", AddTest::operations);
        Due.test("0 CONST n (-32768 .. 32767)", () -> operandsOf(Due.CONST, -32768, 32767));
        Due.test("0 CONST n: also far outside", AddTest::farConstants);
        Due.test("1 LOAD l, where LOCALS are 0 .. 5", () -> operandsOf(Due.LOAD, 0, 5));
        Due.test("2 STORE l, where LOCALS are 0 .. 5", () -> operandsOf(Due.STORE, 0, 5));
        Due.test("13 GOTO t: t is 0 .. 39", () -> operandsOf(Due.GOTO, 0, 39));
        Due.test("14 IF t: t is 0 .. 39", () -> operandsOf(Due.IF, 0, 39));
        Due.test("t is 0 .. 39: also where there is no such instruction yet", AddTest::targetsAhead);
        Due.test("the operand of others is not looked at", AddTest::freeOperands);
        Due.test("the operand of others is not looked at: also where they are done", AddTest::freeOperandsRun);
        Due.test("CODE is at most 40 INSTRUCTIONS", AddTest::fortyFit);
        Due.test("IllegalStateException, when there are 40", AddTest::fortyOne);
        Due.test("IllegalStateException, when [..] the program was begun", AddTest::begunProgram);
        Due.test("the program was begun: not, when begin was refused, or behind clear", AddTest::openAgain);
        Due.test("IllegalArgumentException is named first, where both are due", AddTest::bothAreDue);
        Due.finish();
    }

    private static void howManyThereAre() {
        TraceTier x = new TraceTier();
        Due.same("the first", x.add(Due.CONST, 7), 1);
        Due.same("the second", x.add(Due.OUT, 0), 2);
        Due.same("the third", x.add(Due.HALT, 0), 3);
        Due.same("clear()", x.clear(), 3);
    }

    private static void operations() {
        for (int operation = 0; operation <= 15; operation++) {
            Due.same("add(" + operation + ", 0)", new TraceTier().add(operation, 0), 1);
        }
        int[] none = {-1, 16, -16, 17, 256, Integer.MIN_VALUE, Integer.MAX_VALUE};
        for (int operation : none) {
            Refused.argument("add(" + operation + ", 0)", x -> x.add(operation, 0));
        }
    }

    private static void operandsOf(int operation, int least, int most) {
        TraceTier x = new TraceTier();
        Due.same("the least operand", x.add(operation, least), 1);
        Due.same("the most", x.add(operation, most), 2);
        int[] none = {least - 1, most + 1, Integer.MIN_VALUE, Integer.MAX_VALUE};
        for (int operand : none) {
            Refused.argument("add(" + operation + ", " + operand + ")", y -> y.add(operation, operand));
        }
    }

    /** Numbers whose lower half would be a good operand. */
    private static void farConstants() {
        int[] none = {65536, 65535, -65536, 98304};
        for (int operand : none) {
            Refused.argument("CONST " + operand, x -> x.add(Due.CONST, operand));
        }
        TraceTier x = Due.run(2, 0, 0, "CONST -32768, CONST 32767, HALT");
        Due.stack("the constants at the edges", x, 32767, -32768);
    }

    private static void targetsAhead() {
        TraceTier x = new TraceTier();
        Due.same("GOTO 39", x.add(Due.GOTO, 39), 1);
        Refused.argument("it is not sound yet", () -> Due.with("GOTO 39"), y -> y.begin(0, 0, true));
        for (int i = 2; i <= 40; i++) {
            Due.same("add number " + i, x.add(Due.HALT, 0), i);
        }
        x.begin(0, 0, true);
        x.run(1);
        Due.same("GOTO 39 goes to the fortieth", x.count(0), 39);
    }

    private static void freeOperands() {
        int[] strange = {-1, 6, 40, -32769, 32768, Integer.MIN_VALUE, Integer.MAX_VALUE};
        for (int operation : WITH_FREE_OPERAND) {
            TraceTier x = new TraceTier();
            for (int s = 0; s < strange.length; s++) {
                Due.same("add(" + operation + ", " + strange[s] + ")", x.add(operation, strange[s]), s + 1);
            }
        }
    }

    /** The same loop with and without strange operands: sharing does not look at them either. */
    private static void freeOperandsRun() {
        String plain = "LOAD 2, CONST 4, ADD, LOAD 2, CONST 4, ADD, SWAP, DUP, OUT, DROP, OUT, "
            + "LOAD 0, LOAD 1, LESS, DROP, LOAD 2, CONST 1, SUB, STORE 2, GOTO 0";
        String strange = "LOAD 2, CONST 4, ADD 1, LOAD 2, CONST 4, ADD 2, SWAP -3, DUP 41, OUT 9, DROP -7, OUT 8, "
            + "LOAD 0, LOAD 1, LESS 99, DROP 5, LOAD 2, CONST 1, SUB 77, STORE 2, GOTO 0";
        Due.same("strange operands", Shown.of(Due.run(100, 3, 4, strange)), Shown.of(Due.run(100, 3, 4, plain)));
        Due.same("a HALT with one", Due.begun(0, 0, "HALT -5").run(9), 1);
    }

    private static TraceTier full() {
        TraceTier x = new TraceTier();
        for (int i = 1; i <= 40; i++) {
            x.add(i == 20 ? Due.GOTO : Due.HALT, 0);
        }
        return x;
    }

    private static void fortyFit() {
        TraceTier x = new TraceTier();
        for (int i = 1; i <= 40; i++) {
            Due.same("add number " + i, x.add(Due.HALT, 0), i);
        }
        Due.place("the fortieth", x, 39, 0, 0);
        Due.same("clear()", x.clear(), 40);
        Due.same("the first behind clear", x.add(Due.HALT, 0), 1);
    }

    private static void fortyOne() {
        for (int operation = 0; operation <= 15; operation++) {
            int here = operation;
            Refused.state("a 41st instruction", AddTest::full, x -> x.add(here, 0));
        }
        TraceTier x = full();
        for (int again = 0; again < 3; again++) {
            Due.throwsExactly("a 41st", x, y -> y.add(Due.HALT, 0), IllegalStateException.class);
        }
        Due.same("there are forty still", x.clear(), 40);
    }

    private static void begunProgram() {
        for (State state : State.values()) {
            if (state.isBegun()) {
                Refused.state("add when " + state, state::made, x -> x.add(Due.CONST, 1));
            }
        }
        TraceTier x = State.HALTED.made();
        x.begin(1, 1, false);
        Due.throwsExactly("begun twice", x, y -> y.add(Due.HALT, 0), IllegalStateException.class);
    }

    private static void openAgain() {
        TraceTier x = Due.with("CONST 1");
        Due.throwsExactly("begin", x, y -> y.begin(1, 1, true), IllegalArgumentException.class);
        Due.same("behind a refused begin", x.add(Due.HALT, 0), 2);
        x.begin(1, 1, true);
        x.clear();
        Due.same("behind clear", x.add(Due.HALT, 0), 1);
    }

    private static void bothAreDue() {
        Refused.argument("a 41st that is none", AddTest::full, x -> x.add(16, 0));
        Refused.argument("a 41st whose operand is none", AddTest::full, x -> x.add(Due.LOAD, 6));
        Refused.argument("none, when begun", State.BEGUN::made, x -> x.add(-1, 0));
        Refused.argument("no operand, when begun", State.HALTED::made, x -> x.add(Due.CONST, 32768));
    }
}
