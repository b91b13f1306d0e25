/** Promise 4: run. */
final class RunTest {
    private static final String DOWN = "LOAD 0, CONST 1, SUB, DUP, STORE 0, IF 0, HALT";

    public static void main(String[] args) {
        Due.test("Up to n steps: not more", RunTest::notMore);
        Due.test("Up to n steps (1 .. 500)", RunTest::fewestAndMost);
        Due.test("IllegalArgumentException, when n is not so", RunTest::wrongNumbers);
        Due.test("IllegalStateException, when the program was not begun", RunTest::notBegun);
        Due.test("IllegalArgumentException is named first, where both are due", RunTest::bothAreDue);
        Due.test("as long as it has not halted", RunTest::untilHalt);
        Due.test("as long as it has not halted: then there are none", RunTest::behindHalt);
        Due.test("HALT ends the program: in the very last step that was asked for", RunTest::haltAsTheLast);
        Due.test("It STEPS by one instruction, or by one TURN of a trace.", RunTest::instructionsAndTurns);
        Due.test("how many were made: a turn that is left is one", RunTest::leftTurn);
        Due.test("how many were made: it is the same by one call or by many", RunTest::oneByOne);
        Due.finish();
    }

    private static void notMore() {
        TraceTier x = Due.begun(0, 0, "LOAD 2, CONST 1, ADD, STORE 2, LOAD 2, OUT, HALT");
        for (int step = 1; step <= 6; step++) {
            Due.same("run(1)", x.run(1), 1);
            Due.same("the next one", x.count(0), step);
        }
        x.begin(0, 0, true);
        Due.same("run(4)", x.run(4), 4);
        Due.counts("four steps", x, 4, 4, 0, 0, 0, 0, 0);
        Due.locals("four steps", x, 0, 0, 1);
    }

    private static void fewestAndMost() {
        TraceTier x = Due.begun(0, 0, "GOTO 0");
        Due.same("run(1)", x.run(1), 1);
        Due.same("run(500)", x.run(500), 500);
        Due.same("run(499)", x.run(499), 499);
        Due.same("instructions and turns", x.count(1) + x.count(2), 1000);
        TraceTier y = Due.with("GOTO 0");
        y.begin(0, 0, false);
        Due.same("run(500) without a tier", y.run(500), 500);
        Due.same("instructions", y.count(1), 500);
    }

    private static void wrongNumbers() {
        int[] none = {0, 501, -1, -500, 1000, Integer.MIN_VALUE, Integer.MAX_VALUE};
        for (int n : none) {
            for (State state : State.values()) {
                if (state.isBegun()) {
                    Refused.argument("run(" + n + ") when " + state, state::made, x -> x.run(n));
                }
            }
        }
    }

    private static void notBegun() {
        int[] good = {1, 2, 500};
        for (int n : good) {
            for (State state : State.values()) {
                if (!state.isBegun()) {
                    Refused.state("run(" + n + ") when " + state, state::made, x -> x.run(n));
                }
            }
        }
    }

    private static void bothAreDue() {
        int[] none = {0, 501, -1};
        for (int n : none) {
            for (State state : State.values()) {
                if (!state.isBegun()) {
                    Refused.argument("run(" + n + ") when " + state, state::made, x -> x.run(n));
                }
            }
        }
    }

    private static void untilHalt() {
        TraceTier x = Due.begun(0, 0, "CONST 1, OUT, HALT, CONST 2, OUT, HALT");
        Due.same("to HALT, which is a step", x.run(500), 3);
        Due.outs("not what is behind HALT", x, 1);
        Due.same("HALT alone", Due.begun(0, 0, "HALT").run(500), 1);
    }

    private static void behindHalt() {
        TraceTier x = State.HALTED.made();
        String before = Shown.of(x);
        Due.same("run(1)", x.run(1), 0);
        Due.same("run(500)", x.run(500), 0);
        Due.same("halted", Shown.of(x), before);
    }

    private static void haltAsTheLast() {
        TraceTier x = Due.begun(0, 0, "CONST 1, OUT, HALT");
        Due.same("one short of HALT", x.run(2), 2);
        Due.same("HALT comes up", x.count(0), 2);
        Due.same("HALT", x.run(1), 1);
        Due.same("halted", x.count(0), TraceTier.NONE);
        x.begin(0, 0, true);
        Due.same("HALT as the last of three", x.run(3), 3);
        Due.same("halted", x.count(0), TraceTier.NONE);
        Due.same("no more", x.run(1), 0);
    }

    private static void instructionsAndTurns() {
        TraceTier x = Due.begun(30, 0, DOWN);
        Due.same("23 instructions", x.run(23), 23);
        Due.same("one more, and three turns", x.run(4), 4);
        Due.counts("both", x, 0, 24, 3, 0, 6, 1, 0);
        Due.locals("both", x, 23);
        Due.same("the other 22 turns, one left, and HALT", x.run(500), 24);
    }

    private static void leftTurn() {
        TraceTier x = Due.run(26, 7, 0, DOWN);
        Due.counts("two whole turns", x, 0, 24, 2, 0, 4, 1, 0);
        Due.same("the turn that is left", x.run(1), 1);
        Due.counts("left", x, 6, 24, 2, 1, 6, 1, 0);
        Due.same("HALT", x.run(7), 1);
    }

    private static void oneByOne() {
        for (int n = 1; n <= 60; n++) {
            TraceTier whole = State.BEGUN.made();
            int made = whole.run(n);
            TraceTier single = State.BEGUN.made();
            int sum = 0;
            for (int step = 0; step < n; step++) {
                sum += single.run(1);
            }
            Due.same(n + " steps", made, sum);
            Due.same(n + " steps", Shown.of(whole), Shown.of(single));
        }
    }
}
