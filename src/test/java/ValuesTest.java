/** The terms' fourth and fifth passages: what a trace is made of. */
final class ValuesTest {
    public static void main(String[] args) {
        Due.test("An operation of two numbers is their result, a number.", ValuesTest::folded);
        Due.test("their result, a number: as good as a CONST of it", ValuesTest::foldedIsANumber);
        Due.test("of two numbers: not where one is a local, whatever the result", ValuesTest::notFolded);
        Due.test("locals as they are at the beginning of a turn", ValuesTest::localsAtTheBeginning);
        Due.test("values in the locals (at first themselves)", ValuesTest::valuesInTheLocals);
        Due.test("An operation of the same kind and the same two values [..] is the same value", ValuesTest::shared);
        Due.test("of the same kind", ValuesTest::anotherKind);
        Due.test("the same two values", ValuesTest::otherValues);
        Due.test("(in this order)", ValuesTest::otherOrder);
        Due.test("likewise two CONSTs of the same number", ValuesTest::sameNumber);
        Due.test("An IF on a value that is no number puts a GUARD there", ValuesTest::guards);
        Due.test("on a value that is no number: on a number it puts none", ValuesTest::noGuard);
        Due.test("which holds when the value is [..] 0 as it was", ValuesTest::holdsOnZero);
        Due.test("which holds when the value [..] (is not) 0 as it was", ValuesTest::holdsOnOthers);
        Due.test("when there was the same one before, none is put", ValuesTest::sameGuard);
        Due.test("when there was the same one before: the picture is the first one's", ValuesTest::firstPicture);
        Due.test("An OUT puts one.", ValuesTest::outs);
        Due.test("A local whose next value is itself STAYS.", ValuesTest::stays);
        Due.test("A local whose next value is itself: not another one's, nor an operation's", ValuesTest::staysNot);
        Due.test("NEEDED [..] asked by a guard", ValuesTest::askedByAGuard);
        Due.test("NEEDED [..] in a picture", ValuesTest::inAPicture);
        Due.test("NEEDED [..] given out", ValuesTest::givenOut);
        Due.test("NEEDED [..] or a next value", ValuesTest::nextValue);
        Due.test("NEEDED [..] (or is part of a needed one)", ValuesTest::partOfANeededOne);
        Due.test("NEEDED: others are left out", ValuesTest::leftOut);
        Due.test("NEEDED: others are left out, whatever an earlier trace needs", ValuesTest::leftOutOfASecond);
        Due.test("CONSTANT IN THE LOOP when both its values are numbers, locals that stay, or such operations",
            ValuesTest::constant);
        Due.test("both its values: one that is not so is enough", ValuesTest::notConstant);
        Due.test("needed ones of these make the HEAD", ValuesTest::neededOnes);
        Due.test("the other needed operations, the guards and outs its BODY", ValuesTest::body);
        Due.test("both in the order in which they came", ValuesTest::order);
        Due.finish();
    }

    /** A straight loop: operations in its head and body, guards, outs, locals that stay. */
    private static TraceTier makes(String code, int head, int body, int guards, int outs, int stays) {
        TraceTier x = Due.traced(code);
        Due.trace(code, x, 0, 0, head, body, guards, outs, stays);
        return x;
    }

    private static void folded() {
        String[] all = {"ADD", "SUB", "MUL", "AND", "LESS", "EQUAL"};
        for (String operation : all) {
            makes("CONST 6, CONST 3, " + operation + ", STORE 2", 0, 0, 0, 0, 5);
        }
        makes("LOAD 2, CONST 2, CONST 3, ADD, ADD, STORE 2", 0, 1, 0, 0, 5);
        TraceTier x = makes("CONST 2, CONST 3, ADD, CONST 4, MUL, OUT", 0, 0, 0, 1, 6);
        x.run(1);
        Due.same("folded twice", x.out(0), 20);
    }

    private static void foldedIsANumber() {
        makes("LOAD 0, CONST 2, CONST 3, ADD, MUL, STORE 3, LOAD 0, CONST 5, MUL, STORE 4", 1, 0, 0, 0, 4);
        makes("LOAD 0, CONST 1, CONST 2, LESS, ADD, STORE 3, LOAD 0, CONST 1, ADD, STORE 4", 1, 0, 0, 0, 4);
        makes("LOAD 0, CONST 1, CONST 2, SUB, ADD, STORE 3, LOAD 0, CONST -1, ADD, STORE 4", 1, 0, 0, 0, 4);
        makes("CONST 2, STORE 3, LOAD 3, CONST 9, MUL, STORE 4", 0, 0, 0, 0, 4);
    }

    private static void notFolded() {
        makes("LOAD 0, LOAD 0, EQUAL, STORE 2", 1, 0, 0, 0, 5);
        makes("LOAD 0, LOAD 0, SUB, STORE 2", 1, 0, 0, 0, 5);
        makes("LOAD 0, CONST 0, MUL, STORE 2", 1, 0, 0, 0, 5);
        makes("CONST 0, LOAD 0, AND, STORE 2", 1, 0, 0, 0, 5);
        makes("LOAD 0, CONST 0, ADD, STORE 2", 1, 0, 0, 0, 5);
        makes("LOAD 0, CONST 0, ADD, STORE 0", 0, 1, 0, 0, 5);
    }

    private static void localsAtTheBeginning() {
        TraceTier x = makes("LOAD 2, CONST 1, ADD, STORE 2, LOAD 2, OUT, LOAD 2, CONST 1, ADD, STORE 2", 0, 2, 0, 1, 5);
        Due.locals("four rounds", x, 6, 7, 8);
        x.run(1);
        Due.locals("a turn", x, 6, 7, 10);
        Due.same("in the midst of it", x.out(0), 9);
        TraceTier y = makes("LOAD 2, OUT, CONST 5, STORE 2", 0, 0, 0, 1, 5);
        y.run(1);
        Due.same("the local as it was", y.out(0), 5);
    }

    private static void valuesInTheLocals() {
        makes("LOAD 0, STORE 4, LOAD 0, LOAD 1, ADD, STORE 2, LOAD 4, LOAD 1, ADD, STORE 3", 1, 0, 0, 0, 3);
        TraceTier x = makes("LOAD 0, LOAD 1, ADD, STORE 3, LOAD 3, LOAD 0, LOAD 1, ADD, EQUAL, OUT", 2, 0, 0, 1, 5);
        x.run(1);
        Due.same("what was stored is what is loaded", x.out(0), 1);
    }

    private static void shared() {
        String[] all = {"ADD", "SUB", "MUL", "AND", "LESS", "EQUAL"};
        for (String operation : all) {
            makes("LOAD 0, LOAD 1, " + operation + ", STORE 2, LOAD 0, LOAD 1, " + operation + ", STORE 3", 1, 0, 0, 0, 4);
        }
        makes("LOAD 2, DUP, ADD, OUT, LOAD 2, LOAD 2, ADD, STORE 2", 0, 1, 0, 1, 5);
        TraceTier x = makes("LOAD 0, LOAD 1, ADD, CONST 2, MUL, OUT, LOAD 0, LOAD 1, ADD, CONST 2, MUL, OUT", 2, 0, 0, 2, 6);
        x.run(1);
        Due.same("shared through two", x.out(0), 26);
        Due.same("shared through two", x.out(1), 26);
    }

    private static void anotherKind() {
        makes("LOAD 0, LOAD 1, ADD, STORE 2, LOAD 0, LOAD 1, SUB, STORE 3", 2, 0, 0, 0, 4);
        makes("LOAD 0, LOAD 1, LESS, STORE 2, LOAD 0, LOAD 1, EQUAL, STORE 3", 2, 0, 0, 0, 4);
        makes("LOAD 0, LOAD 1, MUL, STORE 2, LOAD 0, LOAD 1, AND, STORE 3", 2, 0, 0, 0, 4);
    }

    private static void otherValues() {
        makes("LOAD 0, LOAD 1, ADD, STORE 2, LOAD 0, LOAD 4, ADD, STORE 3", 2, 0, 0, 0, 4);
        makes("LOAD 0, LOAD 1, ADD, STORE 2, LOAD 4, LOAD 1, ADD, STORE 3", 2, 0, 0, 0, 4);
        makes("LOAD 2, CONST 1, ADD, STORE 2, LOAD 2, CONST 1, ADD, STORE 2", 0, 2, 0, 0, 5);
        makes("LOAD 0, CONST 1, ADD, STORE 2, LOAD 0, LOAD 1, ADD, STORE 3", 2, 0, 0, 0, 4);
    }

    private static void otherOrder() {
        String[] all = {"ADD", "SUB", "MUL", "AND", "LESS", "EQUAL"};
        for (String operation : all) {
            makes("LOAD 0, LOAD 1, " + operation + ", STORE 2, LOAD 1, LOAD 0, " + operation + ", STORE 3", 2, 0, 0, 0, 4);
        }
        makes("LOAD 0, CONST 3, ADD, STORE 2, CONST 3, LOAD 0, ADD, STORE 3", 2, 0, 0, 0, 4);
        TraceTier x = makes("LOAD 0, LOAD 1, SUB, OUT, LOAD 1, LOAD 0, SUB, OUT", 2, 0, 0, 2, 6);
        x.run(1);
        Due.same("each its own", x.out(0), 1);
        Due.same("each its own", x.out(1), -1);
    }

    private static void sameNumber() {
        makes("LOAD 2, CONST 4, ADD, LOAD 2, CONST 4, ADD, MUL, STORE 2", 0, 2, 0, 0, 5);
        makes("LOAD 0, CONST -32768, ADD, STORE 2, LOAD 0, CONST -32768, ADD, STORE 3", 1, 0, 0, 0, 4);
        makes("LOAD 0, CONST 1, ADD, STORE 2, LOAD 0, CONST 0, ADD, STORE 3", 2, 0, 0, 0, 4);
        makes("LOAD 0, CONST 1, ADD, STORE 2, LOAD 0, CONST -1, ADD, STORE 3", 2, 0, 0, 0, 4);
    }

    private static void guards() {
        makes("LOAD 0, IF 2", 0, 0, 1, 0, 6);
        makes("LOAD 5, IF 2", 0, 0, 1, 0, 6);
        makes("LOAD 0, LOAD 1, LESS, IF 4", 1, 0, 1, 0, 6);
        makes("LOAD 0, IF 2, LOAD 1, IF 4", 0, 0, 2, 0, 6);
        makes("LOAD 0, LOAD 0, SUB, IF 4", 1, 0, 1, 0, 6);
    }

    private static void noGuard() {
        makes("CONST 1, IF 2", 0, 0, 0, 0, 6);
        makes("CONST 0, IF 2", 0, 0, 0, 0, 6);
        makes("CONST 1, CONST 2, LESS, IF 4", 0, 0, 0, 0, 6);
        makes("CONST 3, STORE 2, LOAD 2, IF 4", 0, 0, 0, 0, 5);
    }

    /** The product of local 1 and (local 0 = 0) is 0 in all rounds but the last. */
    private static void holdsOnZero() {
        int[] numbers = {1, -1, 2, 65536, Integer.MIN_VALUE};
        for (int number : numbers) {
            TraceTier x = Due.run(46, 7, number,
                "LOAD 0, CONST 1, SUB, DUP, STORE 0, CONST 0, EQUAL, LOAD 1, MUL, IF 11, GOTO 0, HALT");
            Due.counts("on 0", x, 0, 44, 2, 0, 8, 1, 0);
            x.run(1);
            Due.counts("on " + number, x, 11, 44, 2, 1, 12, 1, 0);
        }
    }

    /** Local 0 is a power of -2: 1, -2, 4 .. to the least int, and then 0. */
    private static void holdsOnOthers() {
        TraceTier x = Due.run(4 * 7, 1, -2, "LOAD 0, IF 3, HALT, LOAD 0, LOAD 1, MUL, STORE 0, GOTO 0");
        for (int turn = 1; turn <= 28; turn++) {
            x.run(1);
            Due.same("whole turns", x.count(2), turn);
        }
        Due.locals("no bit is left", x, 0);
        x.run(1);
        Due.counts("on 0", x, 2, 28, 28, 1, 57, 1, 0);
    }

    private static void sameGuard() {
        makes("LOAD 0, IF 2, LOAD 0, IF 4", 0, 0, 1, 0, 6);
        makes("LOAD 5, IF 2, LOAD 5, IF 4", 0, 0, 1, 0, 6);
        makes("LOAD 0, LOAD 1, LESS, IF 4, LOAD 0, LOAD 1, LESS, IF 8", 1, 0, 1, 0, 6);
        makes("LOAD 0, IF 2, LOAD 0, LOAD 1, MUL, LOAD 0, IF 7, DROP", 0, 0, 1, 0, 6);
        TraceTier x = makes("LOAD 0, DUP, IF 3, IF 4", 0, 0, 1, 0, 6);
        x.run(3);
        Due.same("one guard a turn", x.count(4), 3);
    }

    /** Both IFs ask local 0; at the first one local 2 is 1, at the second one 2. */
    private static void firstPicture() {
        TraceTier x = Due.run(4 * 13, 4, 0, "CONST 1, STORE 2, LOAD 0, IF 5, HALT, CONST 2, STORE 2, LOAD 0, IF 10, HALT, "
            + "LOAD 0, CONST 1, SUB, STORE 0, GOTO 0");
        Due.trace("one guard", x, 0, 0, 0, 1, 1, 0, 4);
        x.run(1);
        Due.counts("left", x, 4, 52, 0, 1, 1, 1, 0);
        Due.locals("left at the first", x, 0, 0, 1);
    }

    private static void outs() {
        makes("CONST 7, OUT", 0, 0, 0, 1, 6);
        makes("LOAD 0, OUT, LOAD 0, OUT", 0, 0, 0, 2, 6);
        makes("CONST 7, OUT, CONST 7, OUT, CONST 7, OUT", 0, 0, 0, 3, 6);
        makes("LOAD 2, CONST 1, ADD, CONST 7, OUT, DROP", 0, 0, 0, 1, 6);
        makes("LOAD 3, LOAD 2, CONST 1, ADD, STORE 3, CONST 7, OUT, STORE 3", 0, 0, 0, 1, 6);
    }

    private static void stays() {
        makes("LOAD 0, STORE 0", 0, 0, 0, 0, 6);
        makes("LOAD 0, CONST 5, STORE 0, STORE 0", 0, 0, 0, 0, 6);
        makes("LOAD 0, LOAD 1, STORE 0, STORE 1, LOAD 0, LOAD 1, STORE 0, STORE 1", 0, 0, 0, 0, 6);
        makes("LOAD 3, STORE 4, LOAD 4, STORE 3", 0, 0, 0, 0, 5);
    }

    private static void staysNot() {
        makes("LOAD 0, STORE 1", 0, 0, 0, 0, 5);
        makes("LOAD 0, LOAD 1, STORE 0, STORE 1", 0, 0, 0, 0, 4);
        makes("CONST 6, STORE 0", 0, 0, 0, 0, 5);
        makes("LOAD 2, LOAD 3, ADD, STORE 2", 0, 1, 0, 0, 5);
    }

    private static void askedByAGuard() {
        makes("LOAD 0, LOAD 1, SUB, IF 4", 1, 0, 1, 0, 6);
        makes("CONST 0, STORE 2, LOAD 2, LOAD 0, ADD, IF 6", 1, 0, 1, 0, 5);
    }

    private static void inAPicture() {
        makes("LOAD 0, LOAD 1, MUL, LOAD 0, IF 5, DROP", 1, 0, 1, 0, 6);
        makes("LOAD 3, LOAD 2, CONST 1, ADD, STORE 3, LOAD 0, IF 7, STORE 3", 1, 0, 1, 0, 6);
        makes("LOAD 0, LOAD 1, MUL, CONST 3, LOAD 0, IF 6, DROP, DROP", 1, 0, 1, 0, 6);
        makes("LOAD 0, LOAD 1, MUL, LOAD 0, LOAD 1, ADD, LOAD 0, LOAD 1, SUB, LOAD 0, LOAD 1, AND, LOAD 0, LOAD 1, LESS, "
            + "LOAD 0, IF 17, DROP, DROP, DROP, DROP, DROP", 5, 0, 1, 0, 6);
        for (int l = 0; l < 6; l++) {
            String local = " " + l;
            makes("LOAD" + local + ", LOAD 0, LOAD 1, ADD, STORE" + local + ", LOAD 2, IF 7, STORE" + local,
                1, 0, 1, 0, 6);
        }
        makes("LOAD 0, LOAD 1, MUL, CONST 1, IF 5, DROP", 0, 0, 0, 0, 6);
        makes("LOAD 0, IF 2, LOAD 0, LOAD 1, MUL, DROP", 0, 0, 1, 0, 6);
    }

    private static void givenOut() {
        makes("LOAD 0, LOAD 1, ADD, OUT", 1, 0, 0, 1, 6);
        makes("LOAD 0, LOAD 1, ADD, DUP, OUT, DROP", 1, 0, 0, 1, 6);
    }

    private static void nextValue() {
        for (int l = 0; l < 6; l++) {
            makes("LOAD 0, LOAD 1, ADD, STORE " + l, l < 2 ? 0 : 1, l < 2 ? 1 : 0, 0, 0, 5);
        }
    }

    private static void partOfANeededOne() {
        makes("LOAD 2, CONST 1, ADD, LOAD 0, MUL, STORE 2", 0, 2, 0, 0, 5);
        makes("LOAD 2, LOAD 2, LOAD 0, ADD, MUL, STORE 2", 0, 2, 0, 0, 5);
        makes("LOAD 0, LOAD 1, ADD, CONST 2, MUL, CONST 3, SUB, CONST 4, AND, OUT", 4, 0, 0, 1, 6);
        makes("LOAD 0, LOAD 1, ADD, CONST 2, MUL, IF 6", 2, 0, 1, 0, 6);
        makes("LOAD 0, LOAD 1, ADD, CONST 2, MUL, LOAD 0, IF 7, DROP", 2, 0, 1, 0, 6);
    }

    private static void leftOut() {
        makes("LOAD 0, LOAD 1, MUL, DROP", 0, 0, 0, 0, 6);
        makes("LOAD 2, CONST 1, ADD, STORE 2, CONST 0, STORE 2", 0, 0, 0, 0, 5);
        makes("LOAD 2, CONST 1, ADD, LOAD 0, MUL, DROP, LOAD 2, CONST 1, SUB, STORE 2", 0, 1, 0, 0, 5);
        TraceTier x = makes("LOAD 2, CONST 1, ADD, LOAD 0, MUL, DROP, LOAD 2, CONST 1, ADD, STORE 2", 0, 1, 0, 0, 5);
        x.run(4);
        Due.same("what is left out is not done", x.count(4), 4);
    }

    /** What the first trace needs, the second one does not: the product of locals 0 and 1. */
    private static void leftOutOfASecond() {
        TraceTier x = Due.run(80, 9, 7, "LOAD 0, LOAD 1, MUL, OUT, LOAD 0, CONST 1, SUB, DUP, STORE 0, IF 0, "
            + "LOAD 0, LOAD 1, MUL, DROP, LOAD 2, OUT, GOTO 10");
        Due.trace("the first", x, 0, 0, 0, 2, 1, 1, 5);
        Due.trace("the second", x, 1, 10, 0, 0, 0, 1, 6);
        x.clear();
        Due.append(x, "LOAD 0, LOAD 1, MUL, DROP, GOTO 0");
        x.begin(6, 7, true);
        x.run(20);
        Due.trace("behind clear", x, 0, 0, 0, 0, 0, 0, 6);
        x.run(3);
        Due.counts("behind clear", x, 0, 20, 3, 0, 0, 1, 0);
    }

    private static void constant() {
        makes("LOAD 0, LOAD 1, ADD, OUT", 1, 0, 0, 1, 6);
        makes("LOAD 0, CONST 3, ADD, OUT", 1, 0, 0, 1, 6);
        makes("CONST 3, LOAD 0, SUB, OUT", 1, 0, 0, 1, 6);
        makes("LOAD 0, LOAD 1, ADD, CONST 3, MUL, OUT", 2, 0, 0, 1, 6);
        makes("LOAD 0, LOAD 1, ADD, LOAD 0, LOAD 1, SUB, MUL, OUT", 3, 0, 0, 1, 6);
        makes("LOAD 0, CONST 5, STORE 0, DUP, LOAD 1, ADD, OUT, STORE 0", 1, 0, 0, 1, 6);
    }

    private static void notConstant() {
        makes("LOAD 2, LOAD 0, ADD, STORE 2", 0, 1, 0, 0, 5);
        makes("LOAD 0, LOAD 2, ADD, STORE 2", 0, 1, 0, 0, 5);
        makes("LOAD 0, LOAD 1, ADD, LOAD 2, MUL, STORE 2", 1, 1, 0, 0, 5);
        makes("LOAD 2, LOAD 0, LOAD 1, ADD, MUL, STORE 2", 1, 1, 0, 0, 5);
        makes("LOAD 1, CONST 1, ADD, STORE 2, LOAD 0, STORE 1", 0, 1, 0, 0, 4);
        makes("LOAD 2, LOAD 0, ADD, STORE 3, CONST 0, STORE 2", 0, 1, 0, 0, 4);
        makes("LOAD 0, CONST 2, MUL, STORE 3, LOAD 0, CONST 1, ADD, STORE 0", 0, 2, 0, 0, 4);
    }

    private static void neededOnes() {
        makes("LOAD 0, LOAD 1, MUL, DROP, LOAD 0, LOAD 1, ADD, OUT", 1, 0, 0, 1, 6);
        TraceTier x = makes("LOAD 0, LOAD 1, MUL, DROP, LOAD 0, LOAD 1, ADD, OUT", 1, 0, 0, 1, 6);
        x.run(1);
        Due.same("one of the head, and the out", x.count(4), 2);
    }

    private static void body() {
        TraceTier x = makes("LOAD 0, LOAD 1, LESS, IF 4", 1, 0, 1, 0, 6);
        x.run(3);
        Due.same("a guard on the head is done in each turn", x.count(4), 1 + 3);
        TraceTier y = makes("LOAD 0, LOAD 1, ADD, OUT", 1, 0, 0, 1, 6);
        y.run(3);
        Due.same("an out of the head is done in each turn", y.count(4), 1 + 3);
        Due.same("and given out", y.outs(), 7);
    }

    /** Both guards would fail in the same turn; an out before each of them. */
    private static void order() {
        TraceTier x = Due.run(4 * 19 + 2, 6, 0, "CONST 10, OUT, LOAD 2, IF 19, CONST 20, OUT, LOAD 3, IF 20, "
            + "LOAD 0, CONST 1, SUB, DUP, STORE 0, CONST 0, EQUAL, DUP, STORE 2, STORE 3, GOTO 0, HALT, HALT");
        Due.trace("made", x, 0, 0, 0, 2, 2, 2, 3);
        Due.counts("two whole turns", x, 0, 76, 2, 0, 12, 1, 0);
        Due.locals("both are not 0", x, 0, 0, 1, 1);
        x.run(1);
        Due.counts("the first of them is the one that fails", x, 19, 76, 2, 1, 14, 1, 0);
        Due.same("the first out", x.out(0), 10);
        Due.same("not the second", x.outs(), 13);
    }
}
