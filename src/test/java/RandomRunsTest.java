import java.util.List;
import java.util.Random;

/**
 * Random programs (the same ones each time) run beside PlainTier, all answers compared; and the
 * tier is compared with the interpreter alone, which must give out the same. No object is used for
 * more than its 512 calls.
 */
final class RandomRunsTest {
    private static final int PROGRAMS = 14000;

    private final Random random;
    private final List<int[]> code;
    private final String what;

    // What the programs came to, so that the test can't become empty unseen.
    private static int soundOnes;
    private static int unsoundOnes;
    private static int tracesMade;
    private static int fourOnes;
    private static int turnsMade;
    private static int leavesMade;
    private static int headsMade;
    private static int givenUpOnes;
    private static int stackPictures;
    private static int turnsAfterGivingUp;

    private RandomRunsTest(int seed) {
        random = new Random(seed);
        code = seed % 4 == 3 ? RandomCode.nested(random) : RandomCode.of(random);
        what = "program " + seed;
    }

    public static void main(String[] args) {
        Due.test("the document told a second time, by PlainTier, gives the same answers", RandomRunsTest::runAll);
        Due.finish();
    }

    private static void runAll() {
        for (int seed = 0; seed < PROGRAMS; seed++) {
            new RandomRunsTest(seed).runOnce();
        }
        System.out.println(soundOnes + " sound, " + unsoundOnes + " not; " + tracesMade + " traces, " + fourOnes
            + " times four; " + turnsMade + " turns, " + leavesMade + " left; " + headsMade + " heads; "
            + givenUpOnes + " with some given up; " + stackPictures + " pictures with a stack; "
            + turnsAfterGivingUp + " turns as the step that gives up");
        Due.isTrue("enough of everything", soundOnes > 1000 && unsoundOnes > 1000 && tracesMade > 1000 && fourOnes > 5
            && turnsMade > 10000 && leavesMade > 1000 && headsMade > 100 && givenUpOnes > 100 && stackPictures > 10
            && turnsAfterGivingUp > 100);
    }

    private void runOnce() {
        PlainTier plain = new PlainTier(code);
        int a = random.nextInt(40) - 5;
        int b = random.nextInt(12) - 3;
        TraceTier x = loaded();
        if (!plain.sound()) {
            unsoundOnes++;
            Due.throwsExactly(what + ": begin", x, y -> y.begin(a, b, true), IllegalArgumentException.class);
            return;
        }
        soundOnes++;
        x.begin(a, b, true);
        plain.begin(a, b, true);
        compare(x, plain);
        note(plain);
        compareWithInterpreter(x, a, b);
    }

    /** An object with the code; some have had another program before, which must leave nothing behind. */
    private TraceTier loaded() {
        TraceTier x = new TraceTier();
        if (random.nextInt(3) == 0) {
            add(x, RandomCode.of(random));
            try {
                x.begin(9, 4, true);
                x.run(1 + random.nextInt(200));
            } catch (IllegalArgumentException e) {
                // Not sound: its instructions are all that is left behind.
            }
            x.clear();
        }
        add(x, code);
        return x;
    }

    private static void add(TraceTier x, List<int[]> code) {
        for (int[] instruction : code) {
            x.add(instruction[0], instruction[1]);
        }
    }

    private void compare(TraceTier x, PlainTier plain) {
        int stop = random.nextInt(8);
        for (int r = 0; r < 8; r++) {
            int n = random.nextInt(3) == 0 ? 1 + random.nextInt(60) : 1 + random.nextInt(4);
            Due.same(what + ": run", x.run(n), plain.run(n));
            Due.same(what + ": work", x.count(4), plain.work);
            Due.same(what + ": the next instruction", x.count(0), plain.halted ? TraceTier.NONE : plain.next);
            if (r == stop) {
                Due.same(what, Shown.of(x), plain.shown());
            }
        }
        x.run(500);
        plain.run(500);
        Due.same(what, Shown.of(x), plain.shown());
    }

    private static void note(PlainTier plain) {
        tracesMade += plain.traces.size();
        fourOnes += plain.traces.size() == 4 ? 1 : 0;
        turnsMade += plain.wholeTurns;
        leavesMade += plain.leaves;
        turnsAfterGivingUp += plain.turnsAfterGivingUp;
        givenUpOnes += plain.givenUp.isEmpty() ? 0 : 1;
        for (PlainTier.Recorded t : plain.traces) {
            headsMade += t.tell(1) > 0 ? 1 : 0;
            stackPictures += t.came.stream().anyMatch(g -> g.sort() == 'g' && !g.stack().isEmpty()) ? 1 : 0;
        }
    }

    private void compareWithInterpreter(TraceTier x, int a, int b) {
        if (x.count(0) != TraceTier.NONE) {
            return;
        }
        TraceTier alone = new TraceTier();
        add(alone, code);
        alone.begin(a, b, false);
        for (int r = 0; r < 400; r++) {
            alone.run(500);
        }
        Due.same(what + ": halted without a tier", alone.count(0), TraceTier.NONE);
        Due.same(what + ": outs without a tier", alone.outs(), x.outs());
        for (int l = 0; l < 6; l++) {
            Due.same(what + ": local without a tier", alone.local(l), x.local(l));
        }
    }
}
