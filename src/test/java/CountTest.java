/** Promise 10: count, and how the head is done only where it must be. */
final class CountTest {
    public static void main(String[] args) {
        wrongWhat();
        nextInstruction();
        recordingIsTold();
        headIsDoneAgain();
        headBehindAnotherTrace();
        leftToAnInstructionWithATrace();
        Due.finish();
    }

    private static void wrongWhat() {
        TraceTier x = Due.begun(0, 0, Due.HALT, 0);
        Due.index("count(-1)", () -> x.count(-1));
        Due.index("count(7)", () -> x.count(7));
        Due.index("count(MIN)", () -> x.count(Integer.MIN_VALUE));
        Due.index("count(MAX)", () -> x.count(Integer.MAX_VALUE));
    }

    private static void nextInstruction() {
        TraceTier x = Due.with(Due.GOTO, 2, Due.HALT, 0, Due.GOTO, 1);
        Due.same("not begun", x.count(0), TraceTier.NONE);
        x.begin(0, 0, true);
        Due.same("begun", x.count(0), 0);
        x.run(1);
        Due.same("behind GOTO 2", x.count(0), 2);
        x.run(1);
        Due.same("behind GOTO 1", x.count(0), 1);
        x.run(1);
        Due.same("halted", x.count(0), TraceTier.NONE);
        Due.same("instructions", x.count(1), 3);
    }

    private static void recordingIsTold() {
        TraceTier x = Due.begun(0, 0, Due.LOAD, 0, Due.DROP, 0, Due.GOTO, 0);
        x.run(8);
        Due.same("before the third jump", x.count(6), 0);
        for (int s = 0; s < 3; s++) {
            x.run(1);
            Due.same("recorded", x.count(6), 1);
            Due.same("no trace yet", x.count(5), 0);
        }
        x.run(1);
        Due.same("nothing recorded any more", x.count(6), 0);
        Due.same("a trace", x.count(5), 1);
        Due.same("instructions", x.count(1), 12);
        x.run(5);
        Due.counts("an empty trace", x, 0, 12, 5, 0, 0, 1, 0);
    }

    /** A loop whose product of locals that stay is in the head; local 2 counts to the edge. */
    private static void headIsDoneAgain() {
        TraceTier x = Due.begun(6, 7,
            Due.LOAD, 0, Due.LOAD, 1, Due.MUL, 0, Due.STORE, 3,
            Due.LOAD, 2, Due.CONST, 1, Due.ADD, 0, Due.DUP, 0, Due.STORE, 2,
            Due.CONST, 3, Due.AND, 0, Due.IF, 0,
            Due.LOAD, 3, Due.OUT, 0, Due.GOTO, 0);
        // The third jump back to 0 is at local 2 = 3; the fourth round is the one with OUT.
        x.run(12 * 4 + 3);
        Due.trace("with OUT", x, 0, 0, 1, 2, 1, 1, 4);
        x.run(1);
        Due.counts("left at once, the head done", x, 0, 51, 0, 1, 4, 1, 0);
        x.run(1);
        Due.counts("left again, the head again", x, 0, 51, 0, 2, 8, 1, 0);
        x.run(2);
        Due.counts("and a whole turn", x, 0, 51, 1, 3, 8 + 4 + 5, 1, 0);
        x.run(1);
        Due.counts("no head behind a whole turn", x, 0, 51, 1, 4, 17 + 3, 1, 0);
        Due.same("out", x.out(0), 42);
        Due.same("outs", x.outs(), 2);
    }

    /** Two loops with a trace each, one behind the other, in a loop that is given up. */
    private static void headBehindAnotherTrace() {
        TraceTier x = Due.begun(3, 4,
            Due.CONST, 8, Due.STORE, 2,
            Due.LOAD, 0, Due.LOAD, 1, Due.ADD, 0, Due.STORE, 3,
            Due.LOAD, 2, Due.CONST, 1, Due.SUB, 0, Due.DUP, 0, Due.STORE, 2, Due.IF, 2,
            Due.GOTO, 0);
        x.run(2 + 4 * 10);
        Due.trace("the inner loop", x, 0, 2, 1, 1, 1, 0, 4);
        x.run(4);
        Due.counts("the rest of the inner loop", x, 12, 42, 3, 1, 9, 1, 0);
        x.run(3);
        Due.counts("back to the outer loop's inner one", x, 2, 45, 3, 1, 9, 1, 0);
        x.run(8);
        Due.counts("the head once more", x, 12, 45, 10, 2, 9 + 1 + 16, 1, 0);
    }

    /** Both ways of the IF lead to loops with a trace: what is left is gone on with by a turn. */
    private static void leftToAnInstructionWithATrace() {
        TraceTier x = Due.begun(9, 0,
            Due.LOAD, 0, Due.CONST, 1, Due.SUB, 0, Due.STORE, 0,
            Due.LOAD, 0, Due.CONST, 1, Due.AND, 0, Due.IF, 0, Due.GOTO, 0);
        // Rounds with local 0 = 8, 7, 6: the third jump back is a GOTO; the recorded one has an odd 5.
        x.run(9 + 8 + 9 + 8);
        Due.same("a trace", x.count(5), 1);
        Due.trace("without the GOTO", x, 0, 0, 0, 2, 1, 0, 5);
        x.run(1);
        Due.counts("left for the GOTO", x, 8, 34, 0, 1, 3, 1, 0);
        x.run(1);
        Due.counts("the GOTO, which makes no count grow", x, 0, 35, 0, 1, 3, 1, 0);
        Due.place("the GOTO, which makes no count grow", x, 0, 3, 1);
        x.run(1);
        Due.counts("a whole turn", x, 0, 35, 1, 1, 6, 1, 0);

        // Recorded on the way that falls through; the other way is the beginning of the trace.
        TraceTier y = Due.begun(0, 0,
            Due.LOAD, 0, Due.CONST, 1, Due.ADD, 0, Due.STORE, 0,
            Due.LOAD, 0, Due.CONST, 3, Due.AND, 0, Due.IF, 0, Due.GOTO, 0);
        y.run(3 * 8 + 9);
        Due.trace("with the GOTO", y, 0, 0, 0, 2, 1, 0, 5);
        y.run(3);
        Due.counts("left three times, each to its own beginning", y, 0, 33, 0, 3, 9, 1, 0);
        y.run(1);
        Due.counts("a whole turn", y, 0, 33, 1, 3, 12, 1, 0);
        Due.same("local 0", y.local(0), 8);
    }
}
