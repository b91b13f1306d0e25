/** Promise 11: place; what makes a count grow, and what is given up. */
final class PlaceTest {
    public static void main(String[] args) {
        edges();
        onlyJumpsBackCount();
        stackNotEmpty();
        haltGivesUp();
        thirtyAndThirtyOne();
        theThirtyFirstIsCounted();
        theThirtyFirstIsATurn();
        nothingCountsWhileRecorded();
        fourTraces();
        Due.finish();
    }

    private static void edges() {
        TraceTier x = Due.with(Due.GOTO, 0, Due.HALT, 0);
        Due.place("before begin", x, 1, 0, 0);
        Due.index("place(2, 0)", () -> x.place(2, 0));
        Due.index("place(-1, 0)", () -> x.place(-1, 0));
        Due.index("place(0, 2)", () -> x.place(0, 2));
        Due.index("place(0, -1)", () -> x.place(0, -1));
        Due.index("place(39, 1)", () -> x.place(39, 1));
        Due.index("place(40, 0)", () -> x.place(40, 0));
        x.begin(0, 0, true);
        int[] counts = {1, 2, 3, 3, 3};
        int[] marks = {0, 0, 0, 1, 1};
        for (int s = 0; s < 5; s++) {
            x.run(1);
            Due.place("a GOTO to itself, step " + s, x, 0, counts[s], marks[s]);
        }
    }

    private static void onlyJumpsBackCount() {
        TraceTier x = Due.begun(1, 0,
            Due.GOTO, 1, Due.LOAD, 0, Due.IF, 4, Due.HALT, 0, Due.CONST, 0, Due.IF, 1, Due.GOTO, 1);
        x.run(6);
        for (int i = 0; i < 7; i++) {
            Due.place("behind one round", x, i, i == 1 ? 1 : 0, 0);
        }
        x.run(5);
        Due.place("behind two rounds", x, 1, 2, 0);
        Due.place("an IF that goes forward", x, 4, 0, 0);
    }

    private static void stackNotEmpty() {
        TraceTier x = Due.begun(0, 0, Due.CONST, 5, Due.DUP, 0, Due.OUT, 0, Due.GOTO, 1);
        x.run(1 + 2 * 3);
        Due.place("two jumps", x, 1, 2, 0);
        x.run(3);
        Due.place("three jumps, a number on the stack", x, 1, 3, 2);
        Due.same("nothing is recorded", x.count(6), 0);
        x.run(30);
        Due.place("given up for good", x, 1, 3, 2);
        Due.same("no trace", x.count(5), 0);
    }

    private static void haltGivesUp() {
        int[] code = {Due.LOAD, 0, Due.CONST, 1, Due.SUB, 0, Due.DUP, 0, Due.STORE, 0, Due.IF, 0, Due.HALT, 0};
        TraceTier x = Due.begun(4, 0, code);
        x.run(24);
        Due.place("recorded", x, 0, 3, 0);
        Due.same("recorded", x.count(6), 1);
        x.run(1);
        Due.place("HALT is done", x, 0, 3, 2);
        Due.counts("HALT is done", x, TraceTier.NONE, 25, 0, 0, 0, 0, 0);
        TraceTier y = Due.begun(5, 0, code);
        y.run(24);
        Due.place("one more round", y, 0, 3, 1);
    }

    private static int[] loopOf(int instructions) {
        int[] code = new int[instructions * 2];
        for (int i = 0; i + 1 < instructions; i++) {
            code[2 * i] = i % 2 == 0 ? Due.LOAD : Due.DROP;
        }
        if (instructions % 2 == 0) {
            // One push without its DROP is left over: it becomes a GOTO to the next one.
            code[2 * (instructions - 2)] = Due.GOTO;
            code[2 * (instructions - 2) + 1] = instructions - 1;
        }
        code[2 * (instructions - 1)] = Due.GOTO;
        return code;
    }

    private static void thirtyAndThirtyOne() {
        TraceTier x = Due.begun(0, 0, loopOf(30));
        x.run(4 * 30 - 1);
        Due.same("29 recorded", x.count(6), 1);
        x.run(1);
        Due.place("30 recorded, and back", x, 0, 3, 1);
        TraceTier y = Due.begun(0, 0, loopOf(31));
        y.run(3 * 31 + 30);
        Due.same("30 recorded, not back", y.count(6), 1);
        Due.place("30 recorded, not back", y, 0, 3, 0);
        y.run(1);
        Due.same("a 31st is not recorded", y.count(6), 0);
        Due.place("given up", y, 0, 3, 2);
        Due.same("no trace", y.count(5), 0);
    }

    /** The IF at 30, the 31st of a round from 0, goes back to 4 in the fourth round alone. */
    private static void theThirtyFirstIsCounted() {
        TraceTier x = Due.with(Due.LOAD, 0, Due.CONST, 1, Due.ADD, 0, Due.STORE, 0);
        for (int pair = 0; pair < 11; pair++) {
            Due.append(x, Due.LOAD, 1, Due.DROP, 0);
        }
        Due.append(x, Due.GOTO, 27, Due.CONST, 3, Due.LOAD, 0, Due.LESS, 0, Due.IF, 4, Due.GOTO, 0);
        x.begin(0, 0, true);
        x.run(3 * 32 + 30);
        Due.same("30 recorded", x.count(6), 1);
        Due.place("30 recorded", x, 4, 0, 0);
        x.run(1);
        Due.same("nothing recorded", x.count(6), 0);
        Due.place("given up before the 31st is done", x, 0, 3, 2);
        Due.place("so that the 31st makes a count grow", x, 4, 1, 0);
        Due.same("the 31st is done", x.count(0), 4);
    }

    /** The 31st instruction of a round from 0 is where the inner loop's trace begins. */
    private static void theThirtyFirstIsATurn() {
        TraceTier x = Due.begun(0, 0,
            Due.CONST, 9, Due.STORE, 3, Due.LOAD, 0, Due.DROP, 0, Due.LOAD, 0, Due.DROP, 0,
            Due.LOAD, 3, Due.CONST, 1, Due.SUB, 0, Due.DUP, 0, Due.STORE, 3, Due.IF, 6, Due.GOTO, 0);
        x.run(30);
        Due.place("the inner loop's trace", x, 6, 3, 1);
        x.run(5 + 1 + 16 + 16);
        Due.counts("recorded from 0", x, 0, 45, 20, 3, 46, 1, 1);
        x.run(30);
        Due.counts("an instruction with a trace is recorded too", x, 6, 75, 20, 3, 46, 1, 1);
        x.run(1);
        Due.counts("nothing recorded, so a turn", x, 6, 75, 21, 3, 48, 1, 0);
        Due.place("given up", x, 0, 3, 2);
        Due.same("local 3", x.local(3), 4);
    }

    private static void nothingCountsWhileRecorded() {
        TraceTier x = Due.begun(0, 0,
            Due.LOAD, 0, Due.CONST, 1, Due.ADD, 0, Due.STORE, 0, Due.LOAD, 1, Due.DROP, 0,
            Due.CONST, 3, Due.LOAD, 0, Due.LESS, 0, Due.IF, 4, Due.GOTO, 0);
        x.run(3 * 11 + 30);
        Due.same("30 recorded", x.count(6), 1);
        Due.place("four jumps back to 4 while recorded", x, 4, 0, 0);
        x.run(4);
        Due.same("nothing recorded", x.count(6), 0);
        Due.place("given up", x, 0, 3, 2);
        Due.place("a jump back to 4 when nothing is recorded", x, 4, 1, 0);
    }

    private static void fourTraces() {
        TraceTier x = new TraceTier();
        for (int start = 0; start < 40; start += 8) {
            if (start > 0) {
                Due.append(x, Due.CONST, 8, Due.STORE, 0);
            }
            Due.append(x, Due.LOAD, 0, Due.CONST, 1, Due.SUB, 0, Due.DUP, 0, Due.STORE, 0, Due.IF, start);
        }
        Due.same("the last instruction", x.add(Due.HALT, 0), 39);
        x.begin(8, 0, true);
        x.run(500);
        Due.same("halted", x.count(0), TraceTier.NONE);
        Due.same("traces", x.count(5), 4);
        for (int t = 0; t < 4; t++) {
            Due.trace("loop " + t, x, t, 8 * t, 0, 1, 1, 0, 5);
            Due.place("loop " + t, x, 8 * t, 3, 1);
        }
        Due.index("a fifth trace", () -> x.trace(4, 0));
        Due.place("the fifth loop", x, 32, 3, 2);
        Due.same("instructions", x.count(1), 4 * 24 + 3 * 2 + 2 + 8 * 6 + 1);
        Due.same("whole turns", x.count(2), 4 * 3);
        Due.same("left", x.count(3), 4);
    }
}
