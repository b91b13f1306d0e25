import java.util.ArrayList;
import java.util.List;
import java.util.Random;

/** Code at random, the same for the same seed: loops in loops, and now and then something unsound. */
final class RandomCode {
    private static final int[] PAIRS = {Due.ADD, Due.SUB, Due.MUL, Due.AND, Due.LESS, Due.EQUAL, Due.SUB, Due.ADD};

    private final Random random;
    private final List<int[]> code = new ArrayList<>();

    private RandomCode(Random random) {
        this.random = random;
    }

    static List<int[]> of(Random random) {
        RandomCode made = new RandomCode(random);
        made.fill();
        return made.code;
    }

    /**
     * A loop round a smaller one that has many rounds: the outer one comes to be recorded when the
     * inner one has its trace, and often has thirty instructions just where that trace begins.
     */
    static List<int[]> nested(Random random) {
        RandomCode made = new RandomCode(random);
        made.fillNested();
        return made.code;
    }

    private void put(int operation, int operand) {
        if (code.size() < 40) {
            code.add(new int[] {operation, operand});
        }
    }

    private int here() {
        return code.size();
    }

    private void fill() {
        int loops = 1 + random.nextInt(5);
        for (int l = 0; l < loops; l++) {
            if (random.nextInt(6) == 0) {
                put(Due.LOAD, random.nextInt(6));
                loop(2, 1);
                put(Due.DROP, 0);
            } else {
                loop(0, loops > 3 ? 0 : 2);
            }
        }
        if (random.nextInt(3) == 0) {
            put(Due.GOTO, Math.min(39, random.nextInt(here() + 1)));
        }
        put(Due.HALT, 0);
        if (here() == 40 || random.nextInt(8) == 0) {
            spoil();
        }
    }

    private void fillNested() {
        put(Due.CONST, 4 + random.nextInt(12));
        put(Due.STORE, 3);
        if (random.nextBoolean()) {
            put(Due.GOTO, here() + 1);
        }
        simple(random.nextInt(random.nextBoolean() ? 12 : 4));
        int start = here();
        simple(random.nextInt(3));
        countDown(3, start);
        if (random.nextInt(3) == 0) {
            put(Due.GOTO, 0);
        } else {
            simple(random.nextInt(2));
            countDown(0, 0);
            put(Due.HALT, 0);
        }
    }

    /** Statements of two instructions that leave the counters of nested loops alone. */
    private void simple(int statements) {
        for (int s = 0; s < statements; s++) {
            switch (random.nextInt(4)) {
                case 0 -> put(Due.CONST, random.nextInt(4));
                default -> put(Due.LOAD, random.nextInt(6));
            }
            switch (random.nextInt(4)) {
                case 0 -> put(Due.OUT, 0);
                case 1 -> put(Due.STORE, 4 + random.nextInt(2));
                default -> put(Due.DROP, 0);
            }
        }
    }

    private void countDown(int counter, int start) {
        put(Due.LOAD, counter);
        if (random.nextInt(3) == 0) {
            put(Due.LOAD, 2);
            put(Due.CONST, 1);
            put(Due.ADD, 0);
        } else {
            put(Due.CONST, 1);
        }
        put(Due.SUB, 0);
        put(Due.DUP, 0);
        put(Due.STORE, counter);
        put(Due.IF, start);
    }

    /** Code that was cut off, or one instruction of it changed: most often unsound. */
    private void spoil() {
        int at = random.nextInt(here());
        int operation = random.nextInt(16);
        int operand = random.nextInt(6);
        code.set(at, new int[] {operation, operand});
        if (here() == 40 && at != 39) {
            code.set(39, new int[] {Due.GOTO, random.nextInt(40)});
        }
    }

    /** A loop on a counter, or without an end, with statements in it. */
    private void loop(int depth, int deeper) {
        int counter = random.nextInt(6);
        if (random.nextInt(2) == 0) {
            put(Due.CONST, 2 + random.nextInt(12));
            put(Due.STORE, counter);
        }
        int start = here();
        int statements = random.nextInt(deeper > 0 ? 4 : 2);
        for (int s = 0; s < statements; s++) {
            statement(depth, start, deeper);
        }
        switch (random.nextInt(8)) {
            case 0 -> put(Due.GOTO, start);
            case 1 -> {
                expression(depth, 2);
                put(Due.IF, start);
            }
            default -> {
                put(Due.LOAD, counter);
                put(Due.CONST, 1);
                put(Due.SUB, 0);
                put(Due.DUP, 0);
                put(Due.STORE, counter);
                put(Due.IF, start);
            }
        }
    }

    private void statement(int depth, int start, int deeper) {
        switch (random.nextInt(9)) {
            case 0 -> {
                expression(depth, 1);
                put(Due.OUT, 0);
            }
            case 1 -> {
                expression(depth, 2);
                put(Due.DROP, 0);
            }
            case 2 -> {
                expression(depth, 1);
                put(Due.IF, start);
            }
            case 3, 4 -> skip(depth, deeper);
            case 5 -> {
                expression(depth, 1);
                expression(depth + 1, 0);
                put(Due.IF, Math.min(39, here() + 1));
                put(Due.STORE, random.nextInt(6));
            }
            case 6 -> {
                if (deeper > 0) {
                    loop(depth, deeper - 1);
                }
            }
            default -> {
                expression(depth, 2);
                put(Due.STORE, random.nextInt(6));
            }
        }
    }

    /** An IF over some stores and outs, filled up to just where it goes. */
    private void skip(int depth, int deeper) {
        expression(depth, 1);
        int at = here();
        int guess = at + 2 + random.nextInt(4);
        put(Due.IF, Math.min(39, guess));
        for (int tries = 0; tries < 6 && here() < guess; tries++) {
            if (guess - here() == 1) {
                put(Due.GOTO, here() + 1 < 40 ? here() + 1 : 0);
            } else if (guess - here() >= 2 && random.nextBoolean()) {
                put(Due.LOAD, random.nextInt(6));
                put(random.nextBoolean() ? Due.OUT : Due.STORE, random.nextInt(3));
            } else {
                put(Due.CONST, random.nextInt(4));
                put(Due.STORE, random.nextInt(6));
            }
        }
        if (deeper > 1 && depth == 0 && random.nextInt(3) == 0) {
            statement(depth, at, deeper - 1);
        }
    }

    private void expression(int depth, int size) {
        if (size == 0 || depth > 4 || random.nextInt(3) == 0) {
            if (random.nextInt(3) == 0) {
                put(Due.CONST, random.nextInt(12) == 0 ? random.nextInt(65536) - 32768 : random.nextInt(6) - 1);
            } else {
                put(Due.LOAD, random.nextInt(6));
            }
            return;
        }
        expression(depth, size - 1);
        if (random.nextInt(6) == 0) {
            put(Due.DUP, 0);
        } else {
            expression(depth + 1, size - 1);
        }
        if (random.nextInt(6) == 0) {
            put(Due.SWAP, 0);
        }
        put(PAIRS[random.nextInt(PAIRS.length)], 0);
    }
}
