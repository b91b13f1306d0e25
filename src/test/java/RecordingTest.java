/** The terms' third passage: what is counted, what is recorded, and what is given up. */
final class RecordingTest {
    /** Six instructions a round, as often as local 0 says. */
    private static final String DOWN = "LOAD 0, CONST 1, SUB, DUP, STORE 0, IF 0, HALT";

    public static void main(String[] args) {
        Due.test("Whenever a GOTO [..] goes to an instruction that is not behind it, that one's COUNT grows by 1",
            RecordingTest::gotoBack);
        Due.test("Whenever a[n] IF goes to an instruction that is not behind it, that one's COUNT grows by 1",
            RecordingTest::ifBack);
        Due.test("that is not behind it: it may be itself", RecordingTest::toItself);
        Due.test("that is not behind it: one that is behind is not counted", RecordingTest::forward);
        Due.test("that one's COUNT: each has its own", RecordingTest::eachItsOwn);
        Due.test("unless it has a trace", RecordingTest::unlessItHasATrace);
        Due.test("unless it [..] is GIVEN UP", RecordingTest::unlessItIsGivenUp);
        Due.test("or something is recorded", RecordingTest::orSomethingIsRecorded);
        Due.test("when it is 3, RECORDING begins there", RecordingTest::whenItIsThree);
        Due.test("if the stack is empty before it", RecordingTest::ifTheStackIsEmpty);
        Due.test("else it is given up", RecordingTest::elseItIsGivenUp);
        Due.test("each instruction that is done is recorded, an IF with the way it went", RecordingTest::theWayItWent);
        Due.test("When the next instruction is the one where recording began, there is a TRACE of it: by GOTO",
            RecordingTest::closedByGoto);
        Due.test("When the next instruction is the one where recording began: by going on",
            RecordingTest::closedByGoingOn);
        Due.test("When the next instruction is the one where recording began: by IF", RecordingTest::closedByIf);
        Due.test("When the next instruction is the one where recording began: not at once", RecordingTest::notAtOnce);
        Due.test("When a 31st instruction would be recorded [..], it is given up", RecordingTest::aThirtyFirst);
        Due.test("a 31st: thirty are a trace", RecordingTest::thirty);
        Due.test("(before that is done): it is done as if nothing were recorded", RecordingTest::beforeThatIsDone);
        Due.test("(before that is done) [..] nothing is recorded any more: when the 31st has a trace, it is a turn",
            RecordingTest::thenATurn);
        Due.test("(before that is done) [..] nothing is recorded any more: the turn may be left",
            RecordingTest::thenATurnThatIsLeft);
        Due.test("(before that is done) [..] nothing is recorded any more: the turn's head is done first",
            RecordingTest::thenATurnWithItsHead);
        Due.test("(before that is done) [..] nothing is recorded any more: the 31st is come to without a jump",
            RecordingTest::thenATurnByGoingOn);
        Due.test("it is given up, and nothing is recorded any more: another can be", RecordingTest::anotherCanBe);
        Due.test("or HALT is done, it is given up, and nothing is recorded any more", RecordingTest::halt);
        Due.test("or HALT is done: as the thirtieth, and as the thirty-first", RecordingTest::lateHalt);
        Due.test("There are at most 4 traces", RecordingTest::fourTraces);
        Due.test("when there are, an instruction whose count gets 3 is given up", RecordingTest::theFifth);
        Due.finish();
    }

    private static void gotoBack() {
        TraceTier x = Due.run(2, 0, 0, "LOAD 0, DROP, GOTO 0");
        Due.place("before GOTO", x, 0, 0, 0);
        x.run(1);
        Due.place("once", x, 0, 1, 0);
        x.run(3);
        Due.place("twice", x, 0, 2, 0);
        Due.place("the GOTO itself", x, 2, 0, 0);
        TraceTier y = Due.run(2, 0, 0, "GOTO 1, GOTO 0");
        Due.place("one before it", y, 0, 1, 0);
        Due.place("a GOTO forward", y, 1, 0, 0);
    }

    private static void ifBack() {
        TraceTier x = Due.run(6, 9, 0, DOWN);
        Due.place("once", x, 0, 1, 0);
        x.run(6);
        Due.place("twice", x, 0, 2, 0);
        TraceTier y = Due.run(6, 1, 0, DOWN);
        Due.same("an IF that does not go", y.count(0), 6);
        Due.place("an IF that does not go", y, 0, 0, 0);
        Due.place("what it goes on to", y, 6, 0, 0);
    }

    private static void toItself() {
        TraceTier x = Due.run(1, 0, 0, "GOTO 0");
        Due.place("once", x, 0, 1, 0);
        x.run(2);
        Due.place("three times", x, 0, 3, 0);
        Due.same("recorded", x.count(6), 1);
        x.run(1);
        Due.trace("a trace of one instruction", x, 0, 0, 0, 0, 0, 0, 6);
        TraceTier y = Due.run(4, 0, 0, "GOTO 2, HALT, GOTO 2");
        Due.place("not the first one", y, 2, 3, 0);
    }

    private static void forward() {
        String code = "GOTO 1, LOAD 0, IF 4, HALT, GOTO 5, CONST 1, IF 7, GOTO 1";
        TraceTier x = Due.run(1 + 6, 1, 0, code);
        for (int i = 0; i < Due.size(code); i++) {
            Due.place("one round", x, i, i == 1 ? 1 : 0, 0);
        }
        x.run(6);
        for (int i = 0; i < Due.size(code); i++) {
            Due.place("two rounds", x, i, i == 1 ? 2 : 0, 0);
        }
    }

    private static void eachItsOwn() {
        TraceTier x = Due.run(10, 3, 0, "LOAD 0, CONST 1, SUB, STORE 0, GOTO 5, LOAD 0, IF 0, GOTO 5");
        Due.place("the outer one", x, 0, 1, 0);
        x.run(7);
        Due.place("the outer one", x, 0, 2, 0);
        Due.place("the inner one", x, 5, 0, 0);
        x.run(4 + 3);
        Due.place("the outer one", x, 0, 2, 0);
        Due.place("the inner one", x, 5, 1, 0);
    }

    /** The turn is left to a GOTO that goes to where the trace begins. */
    private static void unlessItHasATrace() {
        TraceTier x = Due.run(34, 9, 0,
            "LOAD 0, CONST 1, SUB, STORE 0, LOAD 0, CONST 1, AND, IF 0, GOTO 0");
        Due.place("a trace", x, 0, 3, 1);
        x.run(1);
        Due.counts("left", x, 8, 34, 0, 1, 3, 1, 0);
        x.run(1);
        Due.counts("the GOTO is done", x, 0, 35, 0, 1, 3, 1, 0);
        Due.place("and counts nothing", x, 0, 3, 1);
    }

    private static void unlessItIsGivenUp() {
        TraceTier x = Due.run(1 + 9, 0, 0, "CONST 5, DUP, DROP, GOTO 1");
        Due.place("given up", x, 1, 3, 2);
        for (int round = 0; round < 9; round++) {
            x.run(3);
            Due.place("given up for good", x, 1, 3, 2);
        }
        Due.counts("no trace", x, 1, 37, 0, 0, 0, 0, 0);
    }

    /** The inner loop at 4 goes round in the fourth round of the outer one alone, which is recorded. */
    private static void orSomethingIsRecorded() {
        TraceTier x = Due.run(33, 0, 0,
            "LOAD 0, CONST 1, ADD, STORE 0, LOAD 1, DROP, CONST 3, LOAD 0, LESS, IF 4, GOTO 0");
        Due.same("recorded", x.count(6), 1);
        Due.place("recorded", x, 0, 3, 0);
        x.run(30);
        Due.same("four jumps to 4", x.count(0), 6);
        Due.place("not counted", x, 4, 0, 0);
        Due.place("nor is it counted itself", x, 0, 3, 0);
    }

    private static void whenItIsThree() {
        TraceTier x = Due.run(12, 9, 0, DOWN);
        Due.place("two", x, 0, 2, 0);
        x.run(5);
        Due.same("two are too few", x.count(6), 0);
        x.run(1);
        Due.place("three", x, 0, 3, 0);
        Due.same("three", x.count(6), 1);
        Due.same("no trace yet", x.count(5), 0);
    }

    private static void ifTheStackIsEmpty() {
        TraceTier x = Due.run(6, 0, 0, "CONST 1, IF 0, HALT");
        Due.same("the IF has taken its number", x.count(6), 1);
        TraceTier y = Due.run(2 + 9, 0, 0, "CONST 7, DROP, CONST 7, STORE 2, GOTO 2");
        Due.same("empty, though it was not in the midst of the loop", y.count(6), 1);
        Due.place("empty, though it was not in the midst of the loop", y, 2, 3, 0);
    }

    private static void elseItIsGivenUp() {
        String[] deep = {"CONST 1", "CONST 1, CONST 2", "CONST 0, CONST 0, CONST 0, CONST 0, CONST 0"};
        for (String below : deep) {
            int start = Due.size(below);
            TraceTier x = Due.run(start + 8, 0, 0, below + ", DUP, DROP, GOTO " + start);
            Due.place("two, and two steps", x, start, 2, 0);
            x.run(1);
            Due.place("three", x, start, 3, 2);
            Due.same("nothing is recorded", x.count(6), 0);
            x.run(40);
            Due.same("no trace", x.count(5), 0);
        }
        TraceTier y = Due.run(1 + 6, 0, 0, "CONST 5, CONST 1, IF 1, HALT");
        Due.place("by IF, which takes but its own", y, 1, 3, 2);
    }

    /** The recorded round goes another way than the three before it. */
    private static void theWayItWent() {
        String code = "LOAD 0, CONST 1, ADD, STORE 0, LOAD 0, CONST 3, AND, IF 10, CONST 100, OUT, LOAD 0, OUT, GOTO 0";
        TraceTier x = Due.run(3 * 11, 0, 0, code);
        Due.same("recorded", x.count(6), 1);
        Due.outs("three rounds", x, 3, 2, 1);
        x.run(13);
        Due.trace("with both outs", x, 0, 0, 0, 2, 1, 2, 5);
        TraceTier y = Due.run(3 * 11 + 2, 1, 0, code);
        Due.outs("three rounds", y, 4, 100, 3, 2);
        y.run(11);
        Due.trace("with one out", y, 0, 0, 0, 2, 1, 1, 5);
    }

    private static void closedByGoto() {
        TraceTier x = Due.run(11, 0, 0, "LOAD 0, DROP, GOTO 0");
        Due.counts("before GOTO", x, 2, 11, 0, 0, 0, 0, 1);
        x.run(1);
        Due.counts("behind GOTO", x, 0, 12, 0, 0, 0, 1, 0);
        Due.place("a trace", x, 0, 3, 1);
    }

    /** Three jumps to 2 by IF; the fourth round goes to 0, and on to 2. */
    private static void closedByGoingOn() {
        TraceTier x = Due.run(2 + 24 + 10, 0, 0,
            "LOAD 5, DROP, LOAD 0, CONST 1, ADD, DUP, STORE 0, CONST 4, LESS, IF 2, GOTO 0");
        Due.counts("at 1", x, 1, 36, 0, 0, 0, 0, 1);
        x.run(1);
        Due.counts("at 2", x, 2, 37, 0, 0, 0, 1, 0);
        Due.place("a trace", x, 2, 3, 1);
        Due.place("0 is not counted while recorded", x, 0, 0, 0);
        x.run(1);
        Due.counts("a turn", x, 2, 37, 1, 0, 3, 1, 0);
    }

    private static void closedByIf() {
        TraceTier x = Due.run(23, 9, 0, DOWN);
        Due.counts("before IF", x, 5, 23, 0, 0, 0, 0, 1);
        x.run(1);
        Due.counts("behind IF", x, 0, 24, 0, 0, 0, 1, 0);
    }

    private static void notAtOnce() {
        TraceTier x = Due.run(9, 0, 0, "LOAD 0, DROP, GOTO 0");
        Due.counts("it is up, but nothing was recorded", x, 0, 9, 0, 0, 0, 0, 1);
        TraceTier y = Due.run(3, 0, 0, "GOTO 0");
        Due.counts("it is up, but nothing was recorded", y, 0, 3, 0, 0, 0, 0, 1);
        y.run(1);
        Due.counts("one was recorded", y, 0, 4, 0, 0, 0, 1, 0);
    }

    /** A straight loop from 0 of so many instructions. */
    private static String loopOf(int instructions) {
        StringBuilder code = new StringBuilder(instructions % 2 == 0 ? "GOTO 1, " : "");
        for (int pair = 0; pair < (instructions - 1) / 2; pair++) {
            code.append("LOAD 0, DROP, ");
        }
        return code + "GOTO 0";
    }

    private static void aThirtyFirst() {
        TraceTier x = Due.run(3 * 31 + 30, 0, 0, loopOf(31));
        Due.same("thirty, and not back", x.count(6), 1);
        Due.place("thirty, and not back", x, 0, 3, 0);
        x.run(1);
        Due.counts("the 31st is done, but not recorded", x, 0, 124, 0, 0, 0, 0, 0);
        Due.place("given up", x, 0, 3, 2);
        x.run(62);
        Due.counts("nothing more comes of it", x, 0, 186, 0, 0, 0, 0, 0);
        Due.place("given up", x, 0, 3, 2);
        TraceTier y = Due.run(4 * 32, 0, 0, loopOf(32));
        Due.place("of 32", y, 0, 3, 2);
    }

    private static void thirty() {
        TraceTier x = Due.run(4 * 30 - 1, 0, 0, loopOf(30));
        Due.same("29, and not back", x.count(6), 1);
        x.run(1);
        Due.counts("thirty, and back", x, 0, 120, 0, 0, 0, 1, 0);
        Due.place("thirty, and back", x, 0, 3, 1);
        TraceTier y = Due.run(4 * 29, 0, 0, loopOf(29));
        Due.place("29, and back", y, 0, 3, 1);
    }

    /** The IF at 30, the 31st of a round from 0, goes back to 4 in the fourth round alone. */
    private static void beforeThatIsDone() {
        StringBuilder code = new StringBuilder("LOAD 0, CONST 1, ADD, STORE 0, ");
        for (int pair = 0; pair < 11; pair++) {
            code.append("LOAD 1, DROP, ");
        }
        TraceTier x = Due.run(3 * 32 + 30, 0, 0, code + "GOTO 27, CONST 3, LOAD 0, LESS, IF 4, GOTO 0");
        Due.same("thirty", x.count(6), 1);
        Due.place("thirty", x, 4, 0, 0);
        x.run(1);
        Due.same("nothing recorded", x.count(6), 0);
        Due.place("given up", x, 0, 3, 2);
        Due.same("the 31st is done", x.count(0), 4);
        Due.place("and makes a count grow", x, 4, 1, 0);
    }

    /** An outer loop from 0, whose first six instructions set local 3, by which the inner one at 6 counts down. */
    private static String nested(int rounds, String inner) {
        return "CONST " + rounds + ", STORE 3, LOAD 0, DROP, LOAD 0, DROP, " + inner + ", GOTO 0";
    }

    /** The 31st instruction of a round from 0 is where the inner loop's trace begins. */
    private static void thenATurn() {
        TraceTier x = Due.run(30, 0, 0, nested(9, "LOAD 3, CONST 1, SUB, DUP, STORE 3, IF 6"));
        Due.place("the inner loop's trace", x, 6, 3, 1);
        x.run(5 + 1 + 16 + 16);
        Due.counts("recorded from 0", x, 0, 45, 20, 3, 46, 1, 1);
        x.run(30);
        Due.counts("thirty", x, 6, 75, 20, 3, 46, 1, 1);
        Due.place("thirty", x, 0, 3, 0);
        Due.same("one step", x.run(1), 1);
        Due.counts("a whole turn", x, 6, 75, 21, 3, 48, 1, 0);
        Due.locals("a whole turn", x, 0, 0, 0, 4, 0, 0);
        Due.place("given up", x, 0, 3, 2);
        Due.place("no count grows where the trace is", x, 6, 3, 1);
        x.run(4);
        Due.counts("to the end of the inner loop", x, 12, 75, 24, 4, 56, 1, 0);
        TraceTier y = Due.run(30 + 38 + 30 + 5, 0, 0, nested(9, "LOAD 3, CONST 1, SUB, DUP, STORE 3, IF 6"));
        Due.same("in one run", Shown.of(y), Shown.of(x));
    }

    private static void thenATurnThatIsLeft() {
        TraceTier x = Due.run(32 + 12 + 12 + 30, 0, 0, nested(5, "LOAD 3, CONST 1, SUB, DUP, STORE 3, IF 6"));
        Due.counts("thirty", x, 6, 75, 8, 3, 22, 1, 1);
        x.run(1);
        Due.counts("left", x, 12, 75, 8, 4, 24, 1, 0);
        Due.locals("left", x, 0, 0, 0, 0, 0, 0);
        Due.place("given up", x, 0, 3, 2);
    }

    /** The inner loop takes local 1 and 1 from local 3, and their sum is its trace's head. */
    private static void thenATurnWithItsHead() {
        TraceTier x = Due.run(44 + 16 + 16 + 30, 0, 0, nested(9, "LOAD 3, LOAD 1, CONST 1, ADD, SUB, DUP, STORE 3, IF 6"));
        Due.trace("the inner loop", x, 0, 6, 1, 1, 1, 0, 5);
        Due.counts("thirty", x, 6, 83, 20, 3, 49, 1, 1);
        x.run(1);
        Due.counts("with its head", x, 6, 83, 21, 3, 52, 1, 0);
        x.run(1);
        Due.counts("the next without", x, 6, 83, 22, 3, 54, 1, 0);
    }

    /** The thirty go on to the inner loop, at 30, without a jump. */
    private static void thenATurnByGoingOn() {
        StringBuilder code = new StringBuilder("CONST 9, STORE 3, ");
        for (int pair = 0; pair < 14; pair++) {
            code.append("LOAD 0, DROP, ");
        }
        TraceTier x = Due.run(60 + 40 + 40 + 30, 0, 0, code + "LOAD 3, CONST 1, SUB, DUP, STORE 3, IF 30, GOTO 0");
        Due.counts("thirty", x, 30, 147, 20, 3, 46, 1, 1);
        x.run(1);
        Due.counts("a whole turn", x, 30, 147, 21, 3, 48, 1, 0);
        Due.place("given up", x, 0, 3, 2);
    }

    private static void anotherCanBe() {
        TraceTier x = Due.run(33 + 31, 0, 0,
            "LOAD 0, CONST 1, ADD, STORE 0, LOAD 1, DROP, CONST 3, LOAD 0, LESS, IF 4, GOTO 0");
        Due.same("nothing recorded", x.count(6), 0);
        Due.place("given up", x, 0, 3, 2);
        x.run(3 + 12);
        Due.place("the inner loop, three times", x, 4, 3, 0);
        Due.same("recorded", x.count(6), 1);
        x.run(6);
        Due.place("the inner loop", x, 4, 3, 1);
        Due.trace("the inner loop", x, 0, 4, 1, 0, 1, 0, 6);
    }

    private static void halt() {
        TraceTier x = Due.run(24, 4, 0, DOWN);
        Due.place("recorded", x, 0, 3, 0);
        Due.same("recorded", x.count(6), 1);
        x.run(1);
        Due.place("HALT is done", x, 0, 3, 2);
        Due.counts("HALT is done", x, TraceTier.NONE, 25, 0, 0, 0, 0, 0);
        TraceTier y = Due.run(25, 5, 0, DOWN);
        Due.place("HALT is not done yet", y, 0, 3, 1);
        TraceTier z = Due.run(19, 3, 0, DOWN);
        Due.place("HALT when nothing is recorded", z, 0, 2, 0);
    }

    /** The fourth round, which is recorded, goes on to HALT behind its 29 or 30 instructions. */
    private static void lateHalt() {
        StringBuilder code = new StringBuilder("LOAD 0, CONST 1, SUB, STORE 0, GOTO 5, ");
        for (int pair = 0; pair < 11; pair++) {
            code.append("LOAD 1, DROP, ");
        }
        TraceTier x = Due.run(4 * 29, 4, 0, code + "LOAD 0, IF 0, HALT");
        Due.same("29 recorded", x.count(6), 1);
        x.run(1);
        Due.counts("HALT as the thirtieth", x, TraceTier.NONE, 117, 0, 0, 0, 0, 0);
        Due.place("given up", x, 0, 3, 2);
        TraceTier y = Due.run(4 * 30, 4, 0, code + "GOTO 28, LOAD 0, IF 0, HALT");
        Due.same("30 recorded", y.count(6), 1);
        y.run(1);
        Due.counts("HALT as the thirty-first", y, TraceTier.NONE, 121, 0, 0, 0, 0, 0);
        Due.place("given up", y, 0, 3, 2);
    }

    /** Five loops, the first of which has its number from begin. */
    private static TraceTier fiveLoops() {
        TraceTier x = new TraceTier();
        for (int start = 0; start < 40; start += 8) {
            if (start > 0) {
                Due.append(x, "CONST 8, STORE 0");
            }
            Due.append(x, "LOAD 0, CONST 1, SUB, DUP, STORE 0, IF " + start);
        }
        x.add(Due.HALT, 0);
        x.begin(8, 0, true);
        return x;
    }

    private static void fourTraces() {
        TraceTier x = fiveLoops();
        x.run(28 + 30 * 3);
        Due.same("at the fifth loop", x.count(0), 30);
        Due.same("traces", x.count(5), 4);
        for (int t = 0; t < 4; t++) {
            Due.trace("loop " + t, x, t, 8 * t, 0, 1, 1, 0, 5);
            Due.place("loop " + t, x, 8 * t, 3, 1);
        }
        x.run(500);
        Due.same("halted", x.count(0), TraceTier.NONE);
        Due.same("traces", x.count(5), 4);
        Due.index("a fifth", x, y -> y.trace(4, 0));
    }

    private static void theFifth() {
        TraceTier x = fiveLoops();
        x.run(28 + 30 * 3 + 2 + 17);
        Due.place("twice", x, 32, 2, 0);
        x.run(1);
        Due.place("three times", x, 32, 3, 2);
        Due.same("nothing is recorded", x.count(6), 0);
        x.run(30);
        Due.place("to the end", x, 32, 3, 2);
        Due.counts("by the interpreter", x, 38, 4 * 24 + 4 * 2 + 8 * 6, 12, 4, 32, 4, 0);
    }
}
