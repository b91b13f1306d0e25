/** The terms' last passage: how a trace is run, left, and come to. */
final class TurnTest {
    /** Two loops, at 4 and at 10, one behind the other in an outer one; local 1's square is in the second's head. */
    private static final String TWO_LOOPS = "CONST 8, STORE 0, CONST 8, STORE 2, "
        + "LOAD 0, CONST 1, SUB, DUP, STORE 0, IF 4, "
        + "LOAD 1, LOAD 1, MUL, STORE 3, LOAD 2, CONST 1, SUB, DUP, STORE 2, IF 10, GOTO 0";
    /** Left to where it begins in three rounds of four; the product of locals 0 and 1 is in its head. */
    private static final String LEFT_TO_ITSELF = "LOAD 0, LOAD 1, MUL, STORE 3, LOAD 2, CONST 1, ADD, DUP, STORE 2, "
        + "CONST 3, AND, IF 0, LOAD 3, OUT, GOTO 0";

    public static void main(String[] args) {
        Due.test("if the step before was no whole turn of this trace, the head is done first: an instruction",
            TurnTest::headBehindAnInstruction);
        Due.test("if the step before was no whole turn: a turn of it that was left", TurnTest::headBehindALeftTurn);
        Due.test("if the step before was no whole turn of this trace: a turn of another", TurnTest::headBehindAnother);
        Due.test("if the step before was no whole turn: else it is not done", TurnTest::noHeadBehindAWholeTurn);
        Due.test("Then the body, one by one, each with the locals as they were at the beginning",
            TurnTest::localsAsTheyWere);
        Due.test("when a guard does not hold, the locals [..] become what its picture says",
            TurnTest::localsOfThePicture);
        Due.test("when a guard does not hold, [..] the stack become[s] what its picture says",
            TurnTest::stackOfThePicture);
        Due.test("and it goes on there with the interpreter: where the IF did not go", TurnTest::goesOnBehindTheIf);
        Due.test("and it goes on there with the interpreter: where the IF goes", TurnTest::goesOnWhereTheIfGoes);
        Due.test("Otherwise the locals become their next values, all at once.", TurnTest::allAtOnce);
        Due.test("When an instruction that has a trace comes up and nothing is recorded, the next step is a turn of it.",
            TurnTest::nextStepIsATurn);
        Due.test("and nothing is recorded: else it is done by the interpreter, and recorded",
            TurnTest::notWhileRecorded);
        Due.test("(A trace may be come to by any way [..]): by going on", TurnTest::comeToByGoingOn);
        Due.test("(A trace may be come to by any way [..]): by a GOTO forward", TurnTest::comeToByGotoForward);
        Due.test("(A trace may be come to by any way [..]): by leaving another", TurnTest::comeToByLeavingAnother);
        Due.test("(A trace may be come to by any way [..]): by leaving itself", TurnTest::comeToByLeavingItself);
        Due.test("([..] and makes no count grow.)", TurnTest::noCountGrows);
        Due.test("the interpreter's state is made again from the trace's values: all is given out as without a tier",
            TurnTest::asWithoutATier);
        Due.finish();
    }

    private static void headBehindAnInstruction() {
        TraceTier x = State.TRACED.made();
        x.run(1);
        Due.same("the head, and three of the body", x.count(4), 4);
        TraceTier y = Due.run(77 + 4 + 7, 0, 3, TWO_LOOPS);
        Due.same("no head at 4", y.count(4), 17 + 14);
    }

    private static void headBehindALeftTurn() {
        TraceTier x = Due.run(51, 6, 7, LEFT_TO_ITSELF);
        Due.trace("made", x, 0, 0, 1, 2, 1, 1, 4);
        x.run(1);
        Due.counts("left at once", x, 0, 51, 0, 1, 4, 1, 0);
        x.run(1);
        Due.counts("the head again", x, 0, 51, 0, 2, 8, 1, 0);
    }

    private static void headBehindAnother() {
        TraceTier x = Due.run(77 + 4 + 8, 0, 3, TWO_LOOPS);
        Due.counts("the first loop is left", x, 10, 73, 13, 3, 33, 2, 0);
        x.run(1);
        Due.counts("the second one's head and body", x, 10, 73, 14, 3, 36, 2, 0);
        x.run(1);
        Due.counts("and its body", x, 10, 73, 15, 3, 38, 2, 0);
    }

    private static void noHeadBehindAWholeTurn() {
        TraceTier x = State.TRACED.made();
        x.run(1);
        x.run(1);
        Due.same("by two calls", x.count(4), 7);
        TraceTier y = State.TRACED.made();
        y.run(2);
        Due.same("by one call", y.count(4), 7);
        Due.same("what the head gave is there", y.out(0), 9);
        TraceTier z = Due.run(55, 6, 7, LEFT_TO_ITSELF);
        Due.counts("a whole turn behind left ones", z, 0, 51, 1, 3, 17, 1, 0);
        z.run(1);
        Due.counts("no head", z, 0, 51, 1, 4, 20, 1, 0);
        Due.same("what the head gave", z.out(0), 42);
    }

    private static void localsAsTheyWere() {
        TraceTier x = Due.traced("LOAD 2, CONST 1, ADD, STORE 2, LOAD 2, LOAD 2, MUL, STORE 3, LOAD 3, OUT");
        x.run(1);
        Due.locals("a turn", x, 6, 7, 5, 25);
        Due.same("given out", x.out(0), 25);
        TraceTier y = Due.traced("LOAD 3, OUT, LOAD 2, CONST 1, ADD, DUP, STORE 2, STORE 3");
        y.run(1);
        Due.same("what was before the turn", y.out(0), 4);
    }

    private static void localsOfThePicture() {
        TraceTier x = Due.run(4 * 17 + 2, 6, 8, "CONST 5, STORE 2, LOAD 0, LOAD 1, MUL, STORE 3, LOAD 0, IF 9, HALT, "
            + "CONST 0, STORE 2, CONST 0, STORE 3, LOAD 0, CONST 1, SUB, STORE 0, GOTO 0");
        Due.locals("two whole turns", x, 0, 8, 0, 0, 0, 0);
        x.run(1);
        Due.counts("left", x, 8, 68, 2, 1, 8, 1, 0);
        Due.locals("a number, a product, and what is not changed yet", x, 0, 8, 5, 0, 0, 0);
        TraceTier y = Due.run(4 * 13 + 2, 9, 5, "LOAD 0, CONST 1, SUB, STORE 0, LOAD 0, LOAD 1, MUL, STORE 2, "
            + "CONST 3, LOAD 0, LESS, IF 13, HALT, GOTO 0");
        Due.counts("left", y, 12, 52, 1, 1, 8, 1, 0);
        Due.locals("operations", y, 3, 5, 15, 0, 0, 0);
    }

    private static void stackOfThePicture() {
        TraceTier x = Due.run(4 * 13 + 2, 6, 100, "LOAD 1, CONST 77, LOAD 0, IF 6, OUT, HALT, DROP, CONST 1, ADD, STORE 1, "
            + "LOAD 0, CONST 1, SUB, STORE 0, GOTO 0");
        Due.stack("between turns", x);
        x.run(1);
        Due.counts("left", x, 4, 52, 2, 1, 7, 1, 0);
        Due.stack("a local and a number", x, 77, 106);
        Due.same("the interpreter goes on with it", x.run(9), 2);
        Due.outs("the interpreter goes on with it", x, 77);
        Due.stack("the rest of it", x, 106);
        Due.stack("an operation", State.LEFT.made(), 9);
    }

    private static void goesOnBehindTheIf() {
        TraceTier x = State.LEFT.made();
        Due.same("the one behind the IF", x.count(0), 11);
        x.run(1);
        Due.counts("by the interpreter", x, 12, 53, 3, 1, 13, 1, 0);
        Due.stack("by the interpreter", x, 9, 9);
    }

    private static void goesOnWhereTheIfGoes() {
        TraceTier x = Due.run(4 * 9 + 2, 0, 5, "LOAD 0, LOAD 1, EQUAL, IF 9, LOAD 0, CONST 1, ADD, STORE 0, GOTO 0, "
            + "CONST 3, OUT, HALT");
        Due.counts("left", x, 9, 36, 1, 1, 5, 1, 0);
        Due.same("to the end", x.run(500), 3);
        Due.outs("by the interpreter", x, 3);
    }

    private static void allAtOnce() {
        TraceTier x = Due.traced("LOAD 0, LOAD 1, STORE 0, STORE 1");
        x.run(1);
        Due.locals("a swap", x, 7, 6);
        x.run(1);
        Due.locals("a swap back", x, 6, 7);
        TraceTier y = Due.run(4 * 13, 1, 2, "LOAD 0, LOAD 1, STORE 0, LOAD 2, STORE 1, LOAD 3, STORE 2, LOAD 4, STORE 3, "
            + "LOAD 5, STORE 4, STORE 5, GOTO 0");
        Due.locals("four rounds", y, 0, 0, 1, 2, 0, 0);
        y.run(1);
        Due.locals("all go one down", y, 0, 1, 2, 0, 0, 0);
        y.run(2);
        Due.locals("and round", y, 2, 0, 0, 0, 0, 1);
    }

    private static void nextStepIsATurn() {
        TraceTier x = State.TRACED.made();
        for (int turn = 1; turn <= 3; turn++) {
            Due.same("one step", x.run(1), 1);
            Due.same("is a turn", x.count(2), turn);
            Due.same("and no instruction", x.count(1), 52);
        }
    }

    /** The outer loop at 0 is recorded, with two rounds of the inner one at 4, which has a trace. */
    private static void notWhileRecorded() {
        TraceTier x = Due.run(34 + 7 + 7, 9, 0, "LOAD 0, STORE 3, CONST 2, STORE 0, "
            + "LOAD 3, CONST 1, SUB, DUP, STORE 3, IF 4, GOTO 0");
        Due.counts("recorded from 0", x, 0, 39, 6, 3, 18, 1, 1);
        x.run(5);
        Due.counts("the interpreter does the inner loop", x, 5, 44, 6, 3, 18, 1, 1);
        x.run(12);
        Due.counts("a second trace", x, 0, 56, 6, 3, 18, 2, 0);
        Due.trace("with both rounds of the inner loop", x, 1, 0, 0, 2, 2, 0, 4);
        x.run(1);
        Due.counts("a turn of the second", x, 0, 56, 7, 3, 22, 2, 0);
    }

    private static void comeToByGoingOn() {
        TraceTier x = Due.run(77 + 4, 0, 3, TWO_LOOPS);
        Due.counts("behind STORE", x, 4, 73, 6, 2, 17, 2, 0);
        x.run(1);
        Due.counts("a turn", x, 4, 73, 7, 2, 19, 2, 0);
    }

    private static void comeToByGotoForward() {
        TraceTier x = Due.run(3 + 24 + 4 + 1 + 3, 0, 0, "CONST 8, STORE 0, GOTO 4, HALT, "
            + "LOAD 0, CONST 1, SUB, DUP, STORE 0, IF 4, GOTO 0");
        Due.counts("behind GOTO", x, 4, 31, 3, 1, 8, 1, 0);
        x.run(1);
        Due.counts("a turn", x, 4, 31, 4, 1, 10, 1, 0);
        Due.place("no count has grown", x, 4, 3, 1);
    }

    private static void comeToByLeavingAnother() {
        TraceTier x = Due.run(77 + 4 + 8, 0, 3, TWO_LOOPS);
        Due.same("left to the second", x.count(0), 10);
        x.run(1);
        Due.same("an instruction is not done", x.count(1), 73);
        Due.same("a turn is", x.count(2), 14);
    }

    private static void comeToByLeavingItself() {
        TraceTier x = Due.run(51 + 3, 6, 7, LEFT_TO_ITSELF);
        Due.counts("left three times", x, 0, 51, 0, 3, 12, 1, 0);
        x.run(1);
        Due.counts("and a whole turn", x, 0, 51, 1, 3, 17, 1, 0);
    }

    private static void noCountGrows() {
        TraceTier x = Due.run(77 + 4 + 16, 0, 3, TWO_LOOPS);
        Due.place("by going on", x, 4, 3, 1);
        Due.place("by leaving another", x, 10, 3, 1);
        Due.place("the outer loop", x, 0, 1, 0);
        TraceTier y = Due.run(51 + 20, 6, 7, LEFT_TO_ITSELF);
        Due.place("by leaving itself", y, 0, 3, 1);
        TraceTier z = Due.run(33 + 40, 0, 0, "LOAD 0, CONST 1, ADD, STORE 0, LOAD 0, CONST 3, AND, IF 0, GOTO 0");
        Due.place("by whole turns", z, 0, 3, 1);
        for (int i = 1; i < 9; i++) {
            Due.place("any other", z, i, 0, 0);
        }
    }

    private static void asWithoutATier() {
        String[] programs = {State.CODE,
            "LOAD 0, OUT, LOAD 0, CONST 1, SUB, DUP, STORE 0, IF 0, LOAD 1, OUT, LOAD 0, HALT",
            "LOAD 2, CONST 1, ADD, STORE 2, LOAD 2, CONST 3, AND, IF 10, LOAD 2, OUT, LOAD 2, LOAD 0, LESS, IF 0, HALT"};
        for (String code : programs) {
            Due.same(code, outcome(code, true), outcome(code, false));
        }
    }

    private static String outcome(String code, boolean tier) {
        TraceTier x = Due.with(code);
        x.begin(25, 3, tier);
        x.run(500);
        Due.same(code + ": halted", x.count(0), TraceTier.NONE);
        Due.same(code + ": traces", x.count(5), tier ? 1 : 0);
        String shown = Shown.of(x);
        return shown.substring(shown.indexOf("locals"), shown.indexOf("; grown"));
    }
}
