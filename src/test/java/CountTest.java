/** Promise 10: count. */
final class CountTest {
    private static final int NONE = TraceTier.NONE;
    /** A guard before the only operation of its body; 7 instructions a round. */
    private static final String GUARD_FIRST = "LOAD 0, IF 3, HALT, LOAD 0, CONST 1, SUB, STORE 0, GOTO 0";

    public static void main(String[] args) {
        Due.test("The next instruction (0)", CountTest::next);
        Due.test("The next instruction (0): behind a whole turn, where the trace begins", CountTest::nextBehindATurn);
        Due.test("The next instruction (0): when a trace was left, the guard's other way", CountTest::nextWhenLeft);
        Due.test("NONE when it has halted", CountTest::noneWhenHalted);
        Due.test("NONE when it [..] was not begun", CountTest::noneWhenNotBegun);
        Due.test("instructions that the interpreter did (1)", CountTest::instructions);
        Due.test("whole turns (2)", CountTest::wholeTurns);
        Due.test("times that a trace was left (3)", CountTest::timesLeft);
        Due.test("operations, guards and outs that traces did (4)", CountTest::work);
        Due.test("operations [..] that traces did (4): of the head too, when it is done", CountTest::workOfTheHead);
        Due.test("a guard that fails too", CountTest::failingGuard);
        Due.test("operations, guards and outs that traces did (4): none of a trace without any", CountTest::noWork);
        Due.test("traces (5)", CountTest::traces);
        Due.test("1 while something is recorded, else 0 (6)", CountTest::recorded);
        Due.test("IndexOutOfBoundsException, for another what: below", () -> none(-1, -7, Integer.MIN_VALUE));
        Due.test("IndexOutOfBoundsException, for another what: above", () -> none(7, 8, Integer.MAX_VALUE));
        Due.finish();
    }

    private static void none(int... all) {
        for (int what : all) {
            Refused.index("count(" + what + ")", x -> x.count(what));
        }
    }

    private static void next() {
        TraceTier x = Due.begun(0, 0, "GOTO 2, HALT, CONST 1, IF 1, HALT");
        int[] way = {0, 2, 3, 1};
        for (int due : way) {
            Due.same("on the way", x.count(0), due);
            x.run(1);
        }
        TraceTier y = State.RECORDED.made();
        Due.same("recorded", y.count(0), 5);
    }

    private static void nextBehindATurn() {
        TraceTier x = Due.run(2 + 4 * 10 + 1, 0, 0,
            "LOAD 5, DROP, LOAD 0, CONST 1, ADD, STORE 0, LOAD 5, DROP, LOAD 5, DROP, CONST 1, IF 2, HALT");
        Due.counts("a whole turn", x, 2, 42, 1, 0, 1, 1, 0);
    }

    private static void nextWhenLeft() {
        Due.same("the one behind the IF", State.LEFT.made().count(0), 11);
        TraceTier x = Due.run(4 * 10, 0, 5,
            "LOAD 0, LOAD 1, EQUAL, IF 10, LOAD 0, CONST 1, ADD, STORE 0, GOTO 9, GOTO 0, HALT");
        Due.same("a whole turn", x.run(1), 1);
        Due.same("left", x.run(1), 1);
        Due.counts("the one that the IF goes to", x, 10, 40, 1, 1, 5, 1, 0);
    }

    private static void noneWhenHalted() {
        Due.same("halted", State.HALTED.made().count(0), NONE);
        TraceTier x = Due.run(1, 0, 0, "HALT, GOTO 0");
        Due.same("HALT at 0", x.count(0), NONE);
        x.run(5);
        Due.same("still", x.count(0), NONE);
    }

    private static void noneWhenNotBegun() {
        for (State state : State.values()) {
            if (!state.isBegun()) {
                Due.same("when " + state, state.made().count(0), NONE);
            }
        }
        TraceTier x = State.UNSOUND.made();
        Due.throwsExactly("begin", x, y -> y.begin(1, 1, true), IllegalArgumentException.class);
        Due.same("behind a refused begin", x.count(0), NONE);
    }

    private static void instructions() {
        TraceTier x = Due.begun(8, 3, State.CODE);
        for (int step = 0; step < 52; step++) {
            Due.same("before the first turn, recorded ones too", x.count(1), step);
            x.run(1);
        }
        x.run(4);
        Due.same("turns are none", x.count(1), 52);
        x.run(2);
        Due.same("behind what was left", x.count(1), 54);
        x.run(9);
        Due.same("HALT is one", x.count(1), 55);
    }

    private static void wholeTurns() {
        TraceTier x = State.TRACED.made();
        for (int turns = 0; turns <= 3; turns++) {
            Due.same("whole turns", x.count(2), turns);
            x.run(1);
        }
        Due.same("the turn that is left is none", x.count(2), 3);
    }

    private static void timesLeft() {
        TraceTier x = State.TRACED.made();
        x.run(3);
        Due.same("not yet", x.count(3), 0);
        x.run(1);
        Due.same("once", x.count(3), 1);
        x.run(9);
        Due.same("HALT by the interpreter leaves none", x.count(3), 1);
        TraceTier y = Due.run(33, 0, 0, "LOAD 0, CONST 1, ADD, STORE 0, LOAD 0, CONST 3, AND, IF 0, GOTO 0");
        y.run(3);
        Due.same("three times", y.count(3), 3);
    }

    private static void work() {
        TraceTier x = Due.run(28, 6, 0, GUARD_FIRST);
        Due.same("no turn yet", x.count(4), 0);
        x.run(1);
        Due.same("a guard and an operation", x.count(4), 2);
        TraceTier y = Due.traced("LOAD 0, OUT, CONST 4, OUT");
        y.run(3);
        Due.same("two outs, three times", y.count(4), 6);
    }

    private static void workOfTheHead() {
        TraceTier x = State.TRACED.made();
        Due.same("not when the trace is made", x.count(4), 0);
        x.run(1);
        Due.same("head, operation, guard and out", x.count(4), 4);
        x.run(1);
        Due.same("without the head", x.count(4), 7);
    }

    private static void failingGuard() {
        TraceTier x = Due.run(30, 6, 0, GUARD_FIRST);
        Due.same("two turns", x.count(4), 4);
        x.run(1);
        Due.same("left", x.count(3), 1);
        Due.same("the guard, not what is behind it", x.count(4), 5);
        TraceTier y = State.LEFT.made();
        Due.same("what is before it too", y.count(4), 4 + 3 * 3);
    }

    private static void noWork() {
        TraceTier x = Due.traced("LOAD 0, LOAD 1, STORE 0, STORE 1");
        x.run(3);
        Due.counts("a swap of locals", x, 0, 20, 3, 0, 0, 1, 0);
    }

    /** Loops of six instructions, each of which gets its trace. */
    private static void traces() {
        TraceTier x = new TraceTier();
        for (int loop = 0; loop < 4; loop++) {
            Due.append(x, "CONST 8, STORE 0, LOAD 0, CONST 1, SUB, DUP, STORE 0, IF " + (8 * loop + 2));
        }
        x.add(Due.HALT, 0);
        x.begin(0, 0, true);
        for (int loop = 0; loop < 4; loop++) {
            x.run(25);
            Due.same("recorded", x.count(5), loop);
            x.run(1);
            Due.same("recorded to its end", x.count(5), loop + 1);
            x.run(4);
        }
        x.run(1);
        Due.same("halted", x.count(0), NONE);
        Due.same("all four", x.count(5), 4);
    }

    private static void recorded() {
        TraceTier x = Due.begun(0, 0, "LOAD 0, DROP, GOTO 0");
        for (int step = 1; step <= 15; step++) {
            x.run(1);
            Due.same("behind step " + step, x.count(6), step >= 9 && step < 12 ? 1 : 0);
        }
        for (State state : State.values()) {
            Due.same("when " + state, state.made().count(6), state == State.RECORDED ? 1 : 0);
        }
    }
}
