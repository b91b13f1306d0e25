import java.util.Arrays;

/**
 * A bytecode interpreter with a tier of traces. The numbered promises of DOC.md say what each
 * method of the face does; the words used here (turn, guard, picture, head, body) are its terms.
 *
 * <p>All rows are made once, in the constructors, and used again by every program that is begun.
 */
public final class TraceTier {
    public static final int NONE = -1;

    private static final int CONST = 0;
    private static final int LOAD = 1;
    private static final int STORE = 2;
    private static final int ADD = 3;
    private static final int SUB = 4;
    private static final int MUL = 5;
    private static final int AND = 6;
    private static final int LESS = 7;
    private static final int EQUAL = 8;
    private static final int DUP = 9;
    private static final int DROP = 10;
    private static final int SWAP = 11;
    private static final int OUT = 12;
    private static final int GOTO = 13;
    private static final int IF = 14;
    private static final int HALT = 15;

    // How many numbers each operation takes from the stack, and gives to it.
    private static final int[] TAKES = {0, 0, 1, 2, 2, 2, 2, 2, 2, 1, 1, 2, 1, 0, 1, 0};
    private static final int[] GIVES = {1, 1, 0, 1, 1, 1, 1, 1, 1, 2, 0, 2, 0, 0, 0, 0};

    private static final int CODE_LIMIT = 40;
    private static final int SMALLEST_CONST = -32768;
    private static final int LARGEST_CONST = 32767;
    private static final int LOCALS = 6;
    private static final int STACK_LIMIT = 6;
    private static final int OUTS_KEPT = 30;
    private static final int STEP_LIMIT = 500;

    private static final int HOT = 3;
    private static final int RECORD_LIMIT = 30;
    private static final int TRACE_LIMIT = 4;

    // Every recorded instruction brings at most one value beside the locals themselves.
    private static final int VALUE_LIMIT = LOCALS + RECORD_LIMIT;
    // A recording begins with an empty stack, so each IF in it needs another one that pushes.
    private static final int GUARD_LIMIT = RECORD_LIMIT / 2;
    private static final int PICTURE_SIZE = LOCALS + STACK_LIMIT;

    // What stands at a place of the code, in the numbers that promise 11 tells.
    private static final int PLAIN = 0;
    private static final int TRACED = 1;
    private static final int GIVEN_UP = 2;

    // What can stand in a trace, beside the values that need no doing.
    private static final int AN_OPERATION = 0;
    private static final int A_GUARD = 1;
    private static final int AN_OUT = 2;

    private final Code code;
    private final Frame frame;
    private final Given given;
    private final Tally tally;
    private final Places places;
    private final Recording recording;
    private final TraceMaker maker;
    private final Trace[] traces;
    private int traceCount;
    private boolean begun;
    private boolean halted;
    private boolean tier;
    // The trace of which the step before was a whole turn: its head need not be done again.
    private int lastWhole;

    public TraceTier() {
        code = new Code();
        frame = new Frame();
        given = new Given();
        tally = new Tally();
        places = new Places();
        recording = new Recording();
        maker = new TraceMaker();
        traces = new Trace[TRACE_LIMIT];
        for (int t = 0; t < TRACE_LIMIT; t++) {
            traces[t] = new Trace();
        }
        lastWhole = NONE;
    }

    public int add(int operation, int operand) throws IllegalArgumentException, IllegalStateException {
        if (!Code.isInstruction(operation, operand)) {
            throw new IllegalArgumentException("no such operation, or none of its operands");
        }
        if (begun || code.size >= CODE_LIMIT) {
            throw new IllegalStateException("the program was begun, or the code is full");
        }
        code.append(operation, operand);
        return code.size;
    }

    public boolean begin(int a, int b, boolean tier) throws IllegalArgumentException {
        if (!code.isSound()) {
            throw new IllegalArgumentException("the code is not sound");
        }
        boolean before = begun;
        forgetProgram();
        frame.locals[0] = a;
        frame.locals[1] = b;
        this.tier = tier;
        begun = true;
        return before;
    }

    public int run(int n) throws IllegalArgumentException, IllegalStateException {
        if (n < 1 || n > STEP_LIMIT) {
            throw new IllegalArgumentException("steps are 1 .. 500");
        }
        if (!begun) {
            throw new IllegalStateException("the program was not begun");
        }
        int made = 0;
        while (made < n && !halted) {
            step();
            made++;
        }
        return made;
    }

    public int clear() {
        int size = code.size;
        code.size = 0;
        forgetProgram();
        begun = false;
        return size;
    }

    public int local(int l) throws IndexOutOfBoundsException {
        if (l < 0 || l >= LOCALS) {
            throw new IndexOutOfBoundsException("no such local");
        }
        return frame.locals[l];
    }

    public int top(int k) throws IndexOutOfBoundsException {
        if (k < 0 || k >= frame.depth) {
            throw new IndexOutOfBoundsException("the stack has no such number");
        }
        return frame.stack[frame.depth - 1 - k];
    }

    public int outs() {
        return given.total;
    }

    public int out(int k) throws IndexOutOfBoundsException {
        if (!given.keeps(k)) {
            throw new IndexOutOfBoundsException("no such number is kept");
        }
        return given.back(k);
    }

    public int count(int what) throws IndexOutOfBoundsException {
        switch (what) {
            case 0:
                return begun && !halted ? frame.next : NONE;
            case 1:
                return tally.instructions;
            case 2:
                return tally.wholeTurns;
            case 3:
                return tally.leaves;
            case 4:
                return tally.traceWork;
            case 5:
                return traceCount;
            case 6:
                return recording.isOn() ? 1 : 0;
            default:
                throw new IndexOutOfBoundsException("no such count");
        }
    }

    public int place(int i, int what) throws IndexOutOfBoundsException {
        if (i < 0 || i >= code.size || what < 0 || what > 1) {
            throw new IndexOutOfBoundsException("no such instruction, or nothing told of it");
        }
        return what == 0 ? places.counts[i] : places.marks[i];
    }

    public int trace(int t, int what) throws IndexOutOfBoundsException {
        if (t < 0 || t >= traceCount) {
            throw new IndexOutOfBoundsException("no such trace");
        }
        Trace asked = traces[t];
        switch (what) {
            case 0:
                return asked.start;
            case 1:
                return asked.headSize;
            case 2:
                return asked.bodyOperations();
            case 3:
                return asked.guards.size;
            case 4:
                return asked.outCount;
            case 5:
                return asked.countStaying();
            default:
                throw new IndexOutOfBoundsException("nothing such is told of a trace");
        }
    }

    private void forgetProgram() {
        frame.reset();
        given.reset();
        tally.reset();
        places.reset();
        recording.stop();
        traceCount = 0;
        halted = false;
        lastWhole = NONE;
    }

    private void step() {
        // Given up before it is known what the step is: with nothing recorded any more, a turn is
        // due where there is a trace, and a jump counts where there is none.
        if (recording.isFull()) {
            giveUpRecording();
        }
        int due = recording.isOn() ? NONE : places.traceAt[frame.next];
        if (due == NONE) {
            interpret();
        } else {
            takeTurn(due);
        }
        if (recording.closesAt(frame.next)) {
            keepTrace();
        }
    }

    private void takeTurn(int t) {
        Trace due = traces[t];
        due.values.takeLocals(frame.locals);
        if (t != lastWhole) {
            due.doHead(tally);
        }
        boolean whole = due.doBody(frame, given, tally);
        if (whole) {
            tally.wholeTurns++;
        } else {
            tally.leaves++;
        }
        lastWhole = whole ? t : NONE;
    }

    private void interpret() {
        int at = frame.next;
        boolean jumped = execute(code.operations[at], code.operands[at]);
        tally.instructions++;
        lastWhole = NONE;
        if (recording.isOn()) {
            recording.note(at, jumped);
        } else if (tier && jumped && frame.next <= at) {
            countJumpTo(frame.next);
        }
    }

    /** Does one instruction: whether it was a GOTO or IF that went to its operand. */
    private boolean execute(int operation, int operand) {
        frame.next++;
        switch (operation) {
            case CONST:
                frame.push(operand);
                return false;
            case ADD:
            case SUB:
            case MUL:
            case AND:
            case LESS:
            case EQUAL:
                int b = frame.pop();
                int a = frame.pop();
                frame.push(Values.result(operation, a, b));
                return false;
            case OUT:
                given.give(frame.pop());
                return false;
            case GOTO:
                frame.next = operand;
                return true;
            case IF:
                boolean goes = frame.pop() != 0;
                frame.next = goes ? operand : frame.next;
                return goes;
            case HALT:
                halt();
                return false;
            default:
                frame.move(operation, operand);
                return false;
        }
    }

    private void halt() {
        halted = true;
        if (recording.isOn()) {
            giveUpRecording();
        }
    }

    private void countJumpTo(int target) {
        if (places.marks[target] != PLAIN) {
            return;
        }
        places.counts[target]++;
        if (places.counts[target] < HOT) {
            return;
        }
        if (frame.depth == 0 && traceCount < TRACE_LIMIT) {
            recording.startAt(target);
        } else {
            places.marks[target] = GIVEN_UP;
        }
    }

    private void giveUpRecording() {
        places.marks[recording.start] = GIVEN_UP;
        recording.stop();
    }

    private void keepTrace() {
        maker.make(traces[traceCount], code, recording);
        places.marks[recording.start] = TRACED;
        places.traceAt[recording.start] = traceCount;
        traceCount++;
        recording.stop();
    }

    /** The instructions, and whether they are sound. */
    private static final class Code {
        final int[] operations = new int[CODE_LIMIT];
        final int[] operands = new int[CODE_LIMIT];
        int size;
        private final int[] depthBefore = new int[CODE_LIMIT];
        private final int[] reached = new int[CODE_LIMIT];
        private int reachedCount;

        static boolean isInstruction(int operation, int operand) {
            switch (operation) {
                case CONST:
                    return operand >= SMALLEST_CONST && operand <= LARGEST_CONST;
                case LOAD:
                case STORE:
                    return operand >= 0 && operand < LOCALS;
                case GOTO:
                case IF:
                    return operand >= 0 && operand < CODE_LIMIT;
                default:
                    return operation >= CONST && operation <= HALT;
            }
        }

        void append(int operation, int operand) {
            operations[size] = operation;
            operands[size] = operand;
            size++;
        }

        boolean isSound() {
            Arrays.fill(depthBefore, NONE);
            reachedCount = 0;
            boolean sound = reach(0, 0);
            // No instruction is noted twice, so that the size is a bound of what there is to follow.
            for (int r = 0; sound && r < reachedCount && r < size; r++) {
                sound = leadsOnWell(reached[r]);
            }
            return sound;
        }

        /** Notes a way to an instruction: false if there is none, or it had another depth. */
        private boolean reach(int at, int depth) {
            if (at >= size) {
                return false;
            }
            if (depthBefore[at] == NONE) {
                depthBefore[at] = depth;
                reached[reachedCount] = at;
                reachedCount++;
            }
            return depthBefore[at] == depth;
        }

        private boolean leadsOnWell(int at) {
            int operation = operations[at];
            int left = depthBefore[at] - TAKES[operation];
            int behind = left + GIVES[operation];
            if (left < 0 || behind > STACK_LIMIT) {
                return false;
            }
            boolean jumps = operation == GOTO || operation == IF;
            boolean goesOn = operation != GOTO && operation != HALT;
            return (!jumps || reach(operands[at], behind)) && (!goesOn || reach(at + 1, behind));
        }
    }

    /**
     * The locals, the stack and the next instruction. The interpreter holds numbers in it, the
     * maker of traces holds values (by their places among the Values).
     */
    private static final class Frame {
        final int[] locals = new int[LOCALS];
        final int[] stack = new int[STACK_LIMIT];
        int depth;
        int next;

        void reset() {
            Arrays.fill(locals, 0);
            depth = 0;
            next = 0;
        }

        // Sound code keeps the depth inside its bounds; it is looked at so that no call can throw.
        void push(int item) {
            if (depth < STACK_LIMIT) {
                stack[depth] = item;
                depth++;
            }
        }

        int pop() {
            if (depth == 0) {
                return 0;
            }
            depth--;
            return stack[depth];
        }

        /** The operations that only carry what is there: the same for numbers and for values. */
        void move(int operation, int operand) {
            switch (operation) {
                case LOAD:
                    push(locals[operand]);
                    break;
                case STORE:
                    locals[operand] = pop();
                    break;
                case DUP:
                    int doubled = pop();
                    push(doubled);
                    push(doubled);
                    break;
                case DROP:
                    pop();
                    break;
                case SWAP:
                    int upper = pop();
                    int lower = pop();
                    push(upper);
                    push(lower);
                    break;
                default:
                    break;
            }
        }
    }

    /** What was given out: how many numbers, and the latest of them in a ring. */
    private static final class Given {
        private final int[] latest = new int[OUTS_KEPT];
        private int newest;
        int total;

        void reset() {
            newest = 0;
            total = 0;
        }

        void give(int number) {
            newest = newest + 1 < OUTS_KEPT ? newest + 1 : 0;
            latest[newest] = number;
            total++;
        }

        boolean keeps(int k) {
            return k >= 0 && k < OUTS_KEPT && k < total;
        }

        int back(int k) {
            return latest[Math.floorMod(newest - k, OUTS_KEPT)];
        }
    }

    /** What promise 10 counts of the work done. */
    private static final class Tally {
        int instructions;
        int wholeTurns;
        int leaves;
        int traceWork;

        void reset() {
            instructions = 0;
            wholeTurns = 0;
            leaves = 0;
            traceWork = 0;
        }
    }

    /** Of each instruction: its count, its mark, and which trace begins there. */
    private static final class Places {
        final int[] counts = new int[CODE_LIMIT];
        final int[] marks = new int[CODE_LIMIT];
        final int[] traceAt = new int[CODE_LIMIT];

        void reset() {
            Arrays.fill(counts, 0);
            Arrays.fill(marks, PLAIN);
            Arrays.fill(traceAt, NONE);
        }
    }

    /** The instructions done since recording began, each IF with the way it went. */
    private static final class Recording {
        final int[] done = new int[RECORD_LIMIT];
        final boolean[] jumped = new boolean[RECORD_LIMIT];
        int start = NONE;
        int length;

        boolean isOn() {
            return start != NONE;
        }

        boolean isFull() {
            return isOn() && length == RECORD_LIMIT;
        }

        boolean closesAt(int next) {
            return isOn() && length > 0 && next == start;
        }

        void startAt(int target) {
            start = target;
            length = 0;
        }

        void stop() {
            start = NONE;
        }

        void note(int at, boolean went) {
            done[length] = at;
            jumped[length] = went;
            length++;
        }
    }

    /**
     * The values of a trace, each there once, and the numbers they have in a turn. A value's parts
     * come before it; the first values are the locals, each at its own place.
     */
    private static final class Values {
        // CONST with its number as the left part, LOAD with its local, or an operation of two.
        final int[] kinds = new int[VALUE_LIMIT];
        final int[] lefts = new int[VALUE_LIMIT];
        final int[] rights = new int[VALUE_LIMIT];
        final int[] results = new int[VALUE_LIMIT];
        int size;

        static int result(int operation, int a, int b) {
            switch (operation) {
                case ADD:
                    return a + b;
                case SUB:
                    return a - b;
                case MUL:
                    return a * b;
                case AND:
                    return a & b;
                case LESS:
                    return a < b ? 1 : 0;
                default:
                    return a == b ? 1 : 0;
            }
        }

        void reset() {
            size = 0;
            for (int l = 0; l < LOCALS; l++) {
                share(LOAD, l, 0);
            }
        }

        /** The value of these parts: the one that was there before, or a new one. */
        int share(int kind, int left, int right) {
            for (int v = 0; v < size; v++) {
                if (kinds[v] == kind && lefts[v] == left && rights[v] == right) {
                    return v;
                }
            }
            kinds[size] = kind;
            lefts[size] = left;
            rights[size] = right;
            // A number is known once and for all, so that no turn has to do it.
            results[size] = kind == CONST ? left : 0;
            size++;
            return size - 1;
        }

        boolean isNumber(int v) {
            return kinds[v] == CONST;
        }

        boolean isOperation(int v) {
            return kinds[v] != CONST && kinds[v] != LOAD;
        }

        void takeLocals(int[] locals) {
            System.arraycopy(locals, 0, results, 0, LOCALS);
        }

        void work(int v) {
            results[v] = result(kinds[v], results[lefts[v]], results[rights[v]]);
        }
    }

    /** The guards of a trace, with their pictures. */
    private static final class Guards {
        final int[] asked = new int[GUARD_LIMIT];
        final boolean[] jumped = new boolean[GUARD_LIMIT];
        final int[] otherWays = new int[GUARD_LIMIT];
        final int[] depths = new int[GUARD_LIMIT];
        // A row of locals and stack for each guard, one behind the other.
        final int[] pictures = new int[GUARD_LIMIT * PICTURE_SIZE];
        int size;

        boolean has(int value, boolean went) {
            for (int g = 0; g < size; g++) {
                if (asked[g] == value && jumped[g] == went) {
                    return true;
                }
            }
            return false;
        }

        int put(int value, boolean went, int otherWay, Frame frame) {
            int g = size;
            asked[g] = value;
            jumped[g] = went;
            otherWays[g] = otherWay;
            depths[g] = frame.depth;
            System.arraycopy(frame.locals, 0, pictures, g * PICTURE_SIZE, LOCALS);
            System.arraycopy(frame.stack, 0, pictures, g * PICTURE_SIZE + LOCALS, frame.depth);
            size++;
            return g;
        }

        boolean holds(int g, int[] results) {
            return (results[asked[g]] != 0) == jumped[g];
        }

        void restore(int g, int[] results, Frame frame) {
            int row = g * PICTURE_SIZE;
            for (int l = 0; l < LOCALS; l++) {
                frame.locals[l] = results[pictures[row + l]];
            }
            for (int s = 0; s < depths[g]; s++) {
                frame.stack[s] = results[pictures[row + LOCALS + s]];
            }
            frame.depth = depths[g];
            frame.next = otherWays[g];
        }
    }

    /** A trace: its values, its guards, and what is done in head and body. */
    private static final class Trace {
        final Values values = new Values();
        final Guards guards = new Guards();
        final int[] nextValues = new int[LOCALS];
        int start;
        int headSize;
        int outCount;
        private final int[] head = new int[RECORD_LIMIT];
        private final int[] bodyKinds = new int[RECORD_LIMIT];
        private final int[] bodyParts = new int[RECORD_LIMIT];
        private int bodySize;

        void resetAt(int place) {
            values.reset();
            guards.size = 0;
            start = place;
            headSize = 0;
            bodySize = 0;
            outCount = 0;
        }

        void putInHead(int value) {
            head[headSize] = value;
            headSize++;
        }

        /** The part is a guard's place among the guards, or else a value's among the values. */
        void putInBody(int kind, int part) {
            bodyKinds[bodySize] = kind;
            bodyParts[bodySize] = part;
            bodySize++;
            if (kind == AN_OUT) {
                outCount++;
            }
        }

        int bodyOperations() {
            return bodySize - guards.size - outCount;
        }

        boolean stays(int l) {
            return nextValues[l] == l;
        }

        int countStaying() {
            int staying = 0;
            for (int l = 0; l < LOCALS; l++) {
                staying += stays(l) ? 1 : 0;
            }
            return staying;
        }

        void doHead(Tally tally) {
            for (int h = 0; h < headSize; h++) {
                values.work(head[h]);
            }
            tally.traceWork += headSize;
        }

        /** Whether the turn was whole; if not, the frame is what the failed guard's picture says. */
        boolean doBody(Frame frame, Given given, Tally tally) {
            for (int b = 0; b < bodySize; b++) {
                int part = bodyParts[b];
                tally.traceWork++;
                if (bodyKinds[b] == AN_OPERATION) {
                    values.work(part);
                } else if (bodyKinds[b] == AN_OUT) {
                    given.give(values.results[part]);
                } else if (!guards.holds(part, values.results)) {
                    guards.restore(part, values.results, frame);
                    return false;
                }
            }
            for (int l = 0; l < LOCALS; l++) {
                frame.locals[l] = values.results[nextValues[l]];
            }
            return true;
        }
    }

    /** Goes through a recording with values in the place of numbers, and makes a trace of it. */
    private static final class TraceMaker {
        private final Frame frame = new Frame();
        // All that came, in its order; what is not needed is left out only at the end.
        private final int[] cameKinds = new int[RECORD_LIMIT];
        private final int[] cameParts = new int[RECORD_LIMIT];
        private int cameCount;
        private final boolean[] needed = new boolean[VALUE_LIMIT];
        private final boolean[] constant = new boolean[VALUE_LIMIT];

        void make(Trace made, Code code, Recording recording) {
            made.resetAt(recording.start);
            forgetLast();
            for (int r = 0; r < recording.length; r++) {
                int at = recording.done[r];
                follow(made, at, recording.jumped[r], code);
            }
            for (int l = 0; l < LOCALS; l++) {
                made.nextValues[l] = frame.locals[l];
                needed[frame.locals[l]] = true;
            }
            markParts(made.values);
            markConstant(made);
            sortOut(made);
        }

        private void forgetLast() {
            frame.reset();
            for (int l = 0; l < LOCALS; l++) {
                frame.locals[l] = l;
            }
            cameCount = 0;
            for (int v = 0; v < VALUE_LIMIT; v++) {
                needed[v] = false;
            }
        }

        private void follow(Trace made, int at, boolean jumped, Code code) {
            int operation = code.operations[at];
            int operand = code.operands[at];
            switch (operation) {
                case CONST:
                    frame.push(made.values.share(CONST, operand, 0));
                    break;
                case ADD:
                case SUB:
                case MUL:
                case AND:
                case LESS:
                case EQUAL:
                    int b = frame.pop();
                    int a = frame.pop();
                    frame.push(combine(made.values, operation, a, b));
                    break;
                case OUT:
                    int value = frame.pop();
                    needed[value] = true;
                    came(AN_OUT, value);
                    break;
                case IF:
                    guard(made, frame.pop(), jumped, jumped ? at + 1 : operand);
                    break;
                default:
                    frame.move(operation, operand);
                    break;
            }
        }

        private int combine(Values values, int operation, int a, int b) {
            if (values.isNumber(a) && values.isNumber(b)) {
                int folded = Values.result(operation, values.lefts[a], values.lefts[b]);
                return values.share(CONST, folded, 0);
            }
            int before = values.size;
            int value = values.share(operation, a, b);
            if (values.size > before) {
                came(AN_OPERATION, value);
            }
            return value;
        }

        private void guard(Trace made, int value, boolean jumped, int otherWay) {
            if (made.values.isNumber(value) || made.guards.has(value, jumped)) {
                return;
            }
            came(A_GUARD, made.guards.put(value, jumped, otherWay, frame));
            needed[value] = true;
            for (int l = 0; l < LOCALS; l++) {
                needed[frame.locals[l]] = true;
            }
            for (int s = 0; s < frame.depth; s++) {
                needed[frame.stack[s]] = true;
            }
        }

        private void came(int kind, int part) {
            cameKinds[cameCount] = kind;
            cameParts[cameCount] = part;
            cameCount++;
        }

        // Parts come before what they are part of, so one way back through the values is enough.
        private void markParts(Values values) {
            for (int v = values.size - 1; v >= 0; v--) {
                if (needed[v] && values.isOperation(v)) {
                    needed[values.lefts[v]] = true;
                    needed[values.rights[v]] = true;
                }
            }
        }

        private void markConstant(Trace made) {
            Values values = made.values;
            for (int v = 0; v < values.size; v++) {
                if (values.isOperation(v)) {
                    constant[v] = constant[values.lefts[v]] && constant[values.rights[v]];
                } else {
                    constant[v] = values.isNumber(v) || made.stays(v);
                }
            }
        }

        private void sortOut(Trace made) {
            for (int c = 0; c < cameCount; c++) {
                int kind = cameKinds[c];
                int part = cameParts[c];
                if (kind != AN_OPERATION) {
                    made.putInBody(kind, part);
                } else if (needed[part] && constant[part]) {
                    made.putInHead(part);
                } else if (needed[part]) {
                    made.putInBody(kind, part);
                }
            }
        }
    }
}
