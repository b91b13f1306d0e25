/** Promise 2: add. */
final class AddTest {
    private static final int[] FREE = {
        Due.ADD, Due.SUB, Due.MUL, Due.AND, Due.LESS, Due.EQUAL, Due.DUP, Due.DROP, Due.SWAP, Due.OUT, Due.HALT};

    public static void main(String[] args) {
        operandsThatAreThere();
        operandsThatAreNone();
        fullCode();
        begunProgram();
        Due.finish();
    }

    private static void operandsThatAreThere() {
        TraceTier x = new TraceTier();
        int[][] edges = {
            {Due.CONST, -32768}, {Due.CONST, 32767}, {Due.LOAD, 0}, {Due.LOAD, 5}, {Due.STORE, 0}, {Due.STORE, 5},
            {Due.GOTO, 0}, {Due.GOTO, 39}, {Due.IF, 0}, {Due.IF, 39}};
        int size = 0;
        for (int[] edge : edges) {
            size++;
            Due.same("add(" + edge[0] + ", " + edge[1] + ")", x.add(edge[0], edge[1]), size);
        }
        for (int operation : FREE) {
            size++;
            Due.same("add(" + operation + ", a strange operand)", x.add(operation, Integer.MIN_VALUE + operation), size);
        }
        Due.same("clear() behind them", x.clear(), size);
    }

    private static void operandsThatAreNone() {
        TraceTier x = new TraceTier();
        int[][] none = {
            {-1, 0}, {16, 0}, {Integer.MIN_VALUE, 0}, {Integer.MAX_VALUE, 0},
            {Due.CONST, -32769}, {Due.CONST, 32768}, {Due.CONST, Integer.MAX_VALUE},
            {Due.LOAD, -1}, {Due.LOAD, 6}, {Due.STORE, -1}, {Due.STORE, 6},
            {Due.GOTO, -1}, {Due.GOTO, 40}, {Due.IF, -1}, {Due.IF, 40}};
        for (int[] bad : none) {
            Due.argument("add(" + bad[0] + ", " + bad[1] + ")", () -> x.add(bad[0], bad[1]));
        }
        Due.same("a refused add leaves no instruction", x.clear(), 0);
    }

    private static void fullCode() {
        TraceTier x = new TraceTier();
        for (int i = 1; i <= 40; i++) {
            Due.same("add number " + i, x.add(Due.HALT, 0), i);
        }
        Due.state("a 41st instruction", () -> x.add(Due.HALT, 0));
        Due.argument("a 41st that is none", () -> x.add(16, 0));
        Due.same("the code stays full", x.clear(), 40);
    }

    private static void begunProgram() {
        TraceTier x = Due.begun(0, 0, Due.HALT, 0);
        Due.state("add to a begun program", () -> x.add(Due.HALT, 0));
        Due.argument("add of no operation to a begun program", () -> x.add(99, 0));
        x.run(1);
        Due.state("add to a halted program", () -> x.add(Due.HALT, 0));
        x.clear();
        Due.same("add behind clear", x.add(Due.HALT, 0), 1);
    }
}
