import java.util.Arrays;
import java.util.Random;

/**
 * Random programs (the same ones each time) run beside PlainTier, all answers compared; and the
 * tier is compared with the interpreter alone, which must give out the same.
 */
final class RandomRunsTest {
    private static final int PROGRAMS = 12000;
    private static final int[] PAIRS = {Due.ADD, Due.SUB, Due.MUL, Due.AND, Due.LESS, Due.EQUAL, Due.SUB, Due.ADD};

    private final Random random;
    private final PlainTier plain = new PlainTier();
    private final TraceTier x;

    // What the programs came to, so that the test can't become empty unseen.
    private static int soundOnes;
    private static int unsoundOnes;
    private static int tracesMade;
    private static int fourOnes;
    private static int turnsMade;
    private static int leavesMade;
    private static int headsMade;
    private static int givenUpOnes;
    private static int stackPictures;

    private RandomRunsTest(int seed, TraceTier x) {
        random = new Random(seed);
        this.x = x;
        x.clear();
    }

    public static void main(String[] args) {
        // Some programs on one object, so that what an earlier one leaves behind would be seen.
        TraceTier x = new TraceTier();
        for (int seed = 0; seed < PROGRAMS; seed++) {
            x = seed % 10 == 0 ? new TraceTier() : x;
            new RandomRunsTest(seed, x).runOnce("program " + seed);
        }
        System.out.println(soundOnes + " sound, " + unsoundOnes + " not; " + tracesMade + " traces, " + fourOnes
            + " times four; " + turnsMade + " turns, " + leavesMade + " left; " + headsMade + " heads; "
            + givenUpOnes + " with some given up; " + stackPictures + " pictures with a stack");
        Due.isTrue("enough of everything", soundOnes > 1000 && unsoundOnes > 1000 && tracesMade > 1000 && fourOnes > 5
            && turnsMade > 10000 && leavesMade > 1000 && headsMade > 100 && givenUpOnes > 100 && stackPictures > 10);
        Due.finish();
    }

    private void runOnce(String what) {
        generate();
        boolean sound = plain.sound();
        boolean accepted = true;
        int a = random.nextInt(40) - 5;
        int b = random.nextInt(12) - 3;
        try {
            x.begin(a, b, true);
        } catch (IllegalArgumentException e) {
            accepted = false;
        }
        Due.isTrue(what + ": begin", sound == accepted);
        if (!sound || !accepted) {
            unsoundOnes++;
            return;
        }
        soundOnes++;
        plain.begin(a, b, true);
        for (int r = 0; r < 20 && same(what); r++) {
            int n = random.nextInt(3) == 0 ? 1 + random.nextInt(60) : 1 + random.nextInt(4);
            Due.same(what + ": run", x.run(n), plain.run(n));
        }
        x.run(500);
        plain.run(500);
        same(what);
        note();
        compareWithInterpreter(what, a, b);
    }

    private void note() {
        tracesMade += plain.traces.size();
        fourOnes += plain.traces.size() == 4 ? 1 : 0;
        turnsMade += plain.wholeTurns;
        leavesMade += plain.leaves;
        givenUpOnes += plain.givenUp.isEmpty() ? 0 : 1;
        for (PlainTier.Recorded t : plain.traces) {
            headsMade += t.tell(1) > 0 ? 1 : 0;
            stackPictures += t.came.stream().anyMatch(g -> g.sort() == 'g' && !g.stack().isEmpty()) ? 1 : 0;
        }
    }

    private boolean same(String what) {
        int[] got = gotten();
        int[] want = wanted();
        if (Arrays.equals(got, want)) {
            return true;
        }
        Due.fail(what + ": got " + Arrays.toString(got) + ", due is " + Arrays.toString(want));
        return false;
    }

    private int[] gotten() {
        int[] all = new int[200];
        int n = 0;
        for (int w = 0; w < 7; w++) {
            all[n++] = x.count(w);
        }
        for (int l = 0; l < 6; l++) {
            all[n++] = x.local(l);
        }
        all[n++] = x.outs();
        for (int k = 0; k < 31; k++) {
            try {
                all[n] = x.out(k);
            } catch (IndexOutOfBoundsException e) {
                all[n] = -77;
            }
            n++;
        }
        for (int k = 0; k < 7; k++) {
            try {
                all[n] = x.top(k);
            } catch (IndexOutOfBoundsException e) {
                all[n] = -77;
            }
            n++;
        }
        for (int i = 0; i < plain.code.size(); i++) {
            all[n++] = x.place(i, 0);
            all[n++] = x.place(i, 1);
        }
        for (int t = 0; t < x.count(5); t++) {
            for (int w = 0; w < 6; w++) {
                all[n++] = x.trace(t, w);
            }
        }
        return all;
    }

    private int[] wanted() {
        int[] all = new int[200];
        int n = 0;
        all[n++] = plain.halted ? -1 : plain.next;
        all[n++] = plain.instructions;
        all[n++] = plain.wholeTurns;
        all[n++] = plain.leaves;
        all[n++] = plain.work;
        all[n++] = plain.traces.size();
        all[n++] = plain.recordedFrom >= 0 ? 1 : 0;
        for (int l = 0; l < 6; l++) {
            all[n++] = plain.locals[l];
        }
        int outs = plain.given.size();
        all[n++] = outs;
        for (int k = 0; k < 31; k++) {
            all[n++] = k < outs && k < 30 ? plain.given.get(outs - 1 - k) : -77;
        }
        int depth = plain.stack.size();
        for (int k = 0; k < 7; k++) {
            all[n++] = k < depth ? plain.stack.get(depth - 1 - k) : -77;
        }
        for (int i = 0; i < plain.code.size(); i++) {
            all[n++] = plain.counts.getOrDefault(i, 0);
            all[n++] = plain.traceAt(i) != null ? 1 : plain.givenUp.contains(i) ? 2 : 0;
        }
        for (PlainTier.Recorded t : plain.traces) {
            for (int w = 0; w < 6; w++) {
                all[n++] = t.tell(w);
            }
        }
        return all;
    }

    private void compareWithInterpreter(String what, int a, int b) {
        if (x.count(0) != TraceTier.NONE) {
            return;
        }
        int outs = x.outs();
        int[] locals = new int[6];
        for (int l = 0; l < 6; l++) {
            locals[l] = x.local(l);
        }
        Due.isTrue(what + ": begun before", x.begin(a, b, false));
        for (int r = 0; r < 400 && x.count(0) != TraceTier.NONE; r++) {
            x.run(500);
        }
        Due.same(what + ": outs without a tier", x.outs(), outs);
        for (int l = 0; l < 6; l++) {
            Due.same(what + ": local without a tier", x.local(l), locals[l]);
        }
    }

    private void put(int operation, int operand) {
        if (plain.code.size() < 40) {
            plain.code.add(new int[] {operation, operand});
            x.add(operation, operand);
        }
    }

    private int here() {
        return plain.code.size();
    }

    private void generate() {
        int loops = 1 + random.nextInt(5);
        for (int l = 0; l < loops; l++) {
            if (random.nextInt(6) == 0) {
                put(Due.LOAD, random.nextInt(6));
                loop(2, 1);
                put(Due.DROP, 0);
            } else {
                loop(0, loops > 3 ? 0 : 2);
            }
        }
        if (random.nextInt(3) == 0) {
            put(Due.GOTO, Math.min(39, random.nextInt(here() + 1)));
        }
        put(Due.HALT, 0);
        if (here() == 40 || random.nextInt(8) == 0) {
            spoil();
        }
    }

    /** Code that was cut off, or one instruction of it changed: most often unsound. */
    private void spoil() {
        int at = random.nextInt(here());
        int operation = random.nextInt(16);
        int operand = random.nextInt(6);
        PlainTier old = new PlainTier();
        old.code.addAll(plain.code);
        plain.code.clear();
        x.clear();
        for (int i = 0; i < old.code.size(); i++) {
            int[] kept = old.code.get(i);
            if (i == at) {
                put(operation, operand);
            } else if (i == 39) {
                put(Due.GOTO, random.nextInt(40));
            } else {
                put(kept[0], kept[1]);
            }
        }
    }

    /** A loop on a counter, or without an end, with statements in it. */
    private void loop(int depth, int deeper) {
        int counter = random.nextInt(6);
        if (random.nextInt(2) == 0) {
            put(Due.CONST, 2 + random.nextInt(12));
            put(Due.STORE, counter);
        }
        int start = here();
        int statements = random.nextInt(deeper > 0 ? 4 : 2);
        for (int s = 0; s < statements; s++) {
            statement(depth, start, deeper);
        }
        switch (random.nextInt(8)) {
            case 0 -> put(Due.GOTO, start);
            case 1 -> {
                expression(depth, 2);
                put(Due.IF, start);
            }
            default -> {
                put(Due.LOAD, counter);
                put(Due.CONST, 1);
                put(Due.SUB, 0);
                put(Due.DUP, 0);
                put(Due.STORE, counter);
                put(Due.IF, start);
            }
        }
    }

    private void statement(int depth, int start, int deeper) {
        switch (random.nextInt(9)) {
            case 0 -> {
                expression(depth, 1);
                put(Due.OUT, 0);
            }
            case 1 -> {
                expression(depth, 2);
                put(Due.DROP, 0);
            }
            case 2 -> {
                expression(depth, 1);
                put(Due.IF, start);
            }
            case 3, 4 -> skip(depth, deeper);
            case 5 -> {
                expression(depth, 1);
                expression(depth + 1, 0);
                put(Due.IF, Math.min(39, here() + 1));
                put(Due.STORE, random.nextInt(6));
            }
            case 6 -> {
                if (deeper > 0) {
                    loop(depth, deeper - 1);
                }
            }
            default -> {
                expression(depth, 2);
                put(Due.STORE, random.nextInt(6));
            }
        }
    }

    /** An IF over some stores and outs, filled up to just where it goes. */
    private void skip(int depth, int deeper) {
        expression(depth, 1);
        int at = here();
        int guess = at + 2 + random.nextInt(4);
        put(Due.IF, Math.min(39, guess));
        for (int tries = 0; tries < 6 && here() < guess; tries++) {
            if (guess - here() == 1) {
                put(Due.GOTO, here() + 1 < 40 ? here() + 1 : 0);
            } else if (guess - here() >= 2 && random.nextBoolean()) {
                put(Due.LOAD, random.nextInt(6));
                put(random.nextBoolean() ? Due.OUT : Due.STORE, random.nextInt(3));
            } else {
                put(Due.CONST, random.nextInt(4));
                put(Due.STORE, random.nextInt(6));
            }
        }
        if (deeper > 1 && depth == 0 && random.nextInt(3) == 0) {
            statement(depth, at, deeper - 1);
        }
    }

    private void expression(int depth, int size) {
        if (size == 0 || depth > 4 || random.nextInt(3) == 0) {
            if (random.nextInt(3) == 0) {
                put(Due.CONST, random.nextInt(12) == 0 ? random.nextInt(65536) - 32768 : random.nextInt(6) - 1);
            } else {
                put(Due.LOAD, random.nextInt(6));
            }
            return;
        }
        expression(depth, size - 1);
        if (random.nextInt(6) == 0) {
            put(Due.DUP, 0);
        } else {
            expression(depth + 1, size - 1);
        }
        if (random.nextInt(6) == 0) {
            put(Due.SWAP, 0);
        }
        put(PAIRS[random.nextInt(PAIRS.length)], 0);
    }
}
