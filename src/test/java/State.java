/** The states in which an object can be, each made by calls of the face. */
enum State {
    NEW, UNSOUND, CODED, BEGUN, RECORDED, TRACED, WHOLE_TURN, LEFT, HALTED, CLEARED;

    /**
     * A loop whose trace has something of each kind: local 1's square in its head, a guard with a
     * number on the stack of its picture, an out; behind the loop, a number is left to HALT.
     */
    static final String CODE = "LOAD 1, LOAD 1, MUL, DUP, OUT, LOAD 0, CONST 1, SUB, DUP, STORE 0, IF 14, "
        + "CONST 9, ADD, HALT, DROP, GOTO 0";
    private static final int ROUND = 13;

    /** An object in this state. */
    TraceTier made() {
        switch (this) {
            case NEW:
                return new TraceTier();
            case UNSOUND:
                return Due.with("LOAD 1, ADD, HALT");
            case CODED:
                return Due.with(CODE);
            case BEGUN:
                return Due.begun(8, 3, CODE);
            case RECORDED:
                return Due.run(3 * ROUND + 5, 8, 3, CODE);
            case TRACED:
                return Due.run(4 * ROUND, 8, 3, CODE);
            case WHOLE_TURN:
                return Due.run(4 * ROUND + 2, 8, 3, CODE);
            case LEFT:
                return Due.run(4 * ROUND + 4, 8, 3, CODE);
            case HALTED:
                return Due.run(4 * ROUND + 7, 8, 3, CODE);
            default:
                TraceTier x = WHOLE_TURN.made();
                x.clear();
                return x;
        }
    }

    boolean isBegun() {
        return ordinal() >= BEGUN.ordinal() && this != CLEARED;
    }

    /** Whether one more instruction can be added. */
    boolean isOpen() {
        return !isBegun();
    }

    boolean hasCode() {
        return this != NEW && this != CLEARED;
    }
}
