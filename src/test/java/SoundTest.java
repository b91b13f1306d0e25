/** The terms' second passage: which code is sound; promise 3 refuses what is not. */
final class SoundTest {
    private static final String FIVE = "CONST 1, CONST 2, CONST 3, CONST 4, CONST 5";
    private static final String SIX = FIVE + ", CONST 6";
    private static final String[] TAKE_ONE = {"STORE 0", "DUP", "DROP", "OUT", "IF 2"};
    private static final String[] TAKE_TWO = {"ADD", "SUB", "MUL", "AND", "LESS", "EQUAL", "SWAP"};

    public static void main(String[] args) {
        Due.test("IllegalArgumentException, when the code is not sound (so, too, without instructions [..])",
            SoundTest::noInstructions);
        Due.test("the stack's depth before each instruction [..] is always the same", SoundTest::twoDepths);
        Due.test("always the same: also by a way back", SoundTest::growingLoop);
        Due.test("0 before the first one", SoundTest::firstOne);
        Due.test("never below what is taken", SoundTest::belowWhatIsTaken);
        Due.test("never below what is taken: just enough will do", SoundTest::justEnough);
        Due.test("never above 6 behind", SoundTest::aboveSix);
        Due.test("never above 6 behind: 6 will do", SoundTest::sixBehind);
        Due.test("the STACK has at most 6", SoundTest::sixAreThere);
        Due.test("no way leads behind the last instruction: going on", SoundTest::goingOnBehindTheLast);
        Due.test("no way leads behind the last instruction: GOTO", SoundTest::gotoBehindTheLast);
        Due.test("no way leads behind the last instruction: IF", SoundTest::ifBehindTheLast);
        Due.test("no way leads behind the last instruction: to the last one is no such way", SoundTest::toTheLast);
        Due.test("no way leads behind the last instruction: of forty", SoundTest::behindTheFortieth);
        Due.test("each instruction that can be reached: others are not looked at", SoundTest::notReached);
        Due.test("each instruction that can be reached: by either way of an IF", SoundTest::eitherWay);
        Due.test("the code is what was added since clear", SoundTest::onlyWhatIsThere);
        Due.finish();
    }

    private static void sound(String code) {
        Due.isFalse(code + ": begun before", Due.with(code).begin(1, 2, true));
    }

    private static void unsound(String code) {
        Refused.argument("begin of " + code, () -> Due.with(code), x -> x.begin(1, 2, true));
        Due.throwsExactly("begin without a tier of " + code, Due.with(code), x -> x.begin(1, 2, false),
            IllegalArgumentException.class);
    }

    private static void noInstructions() {
        unsound("");
        Refused.argument("begin behind clear", State.CLEARED::made, x -> x.begin(1, 2, true));
    }

    private static void twoDepths() {
        unsound("LOAD 0, IF 3, CONST 1, HALT");
        unsound("LOAD 0, IF 4, CONST 1, GOTO 4, HALT");
        unsound("CONST 1, CONST 2, LOAD 0, IF 5, DROP, HALT");
        sound("LOAD 0, IF 4, CONST 1, GOTO 5, CONST 2, OUT, HALT");
        sound("CONST 1, LOAD 0, IF 5, DROP, CONST 3, HALT");
    }

    private static void growingLoop() {
        unsound("LOAD 0, DROP, CONST 1, GOTO 2");
        unsound("LOAD 0, DUP, DUP, IF 1, HALT");
        unsound("CONST 1, CONST 1, DROP, GOTO 2");
        sound("CONST 1, DUP, DROP, GOTO 1");
        sound("CONST 1, DUP, IF 1, HALT");
    }

    private static void firstOne() {
        unsound("CONST 1, GOTO 0");
        unsound("CONST 1, CONST 1, IF 0, HALT");
        unsound("DROP, CONST 1, GOTO 0");
        sound("CONST 1, DROP, GOTO 0");
        sound("CONST 1, IF 0, HALT");
    }

    private static void belowWhatIsTaken() {
        for (String taker : TAKE_ONE) {
            unsound(taker + ", HALT, HALT");
        }
        for (String taker : TAKE_TWO) {
            unsound(taker + ", HALT");
            unsound("CONST 1, " + taker + ", HALT");
        }
    }

    private static void justEnough() {
        for (String taker : TAKE_ONE) {
            sound("CONST 1, " + taker + ", HALT");
        }
        for (String taker : TAKE_TWO) {
            sound("CONST 1, CONST 2, " + taker + ", HALT");
        }
        sound("HALT");
        sound("GOTO 0");
    }

    private static void aboveSix() {
        unsound(SIX + ", CONST 7, HALT");
        unsound(SIX + ", LOAD 0, HALT");
        unsound(SIX + ", DUP, HALT");
        unsound(SIX + ", CONST 7, DROP, HALT");
        unsound("CONST 1, DUP, DUP, DUP, DUP, DUP, DUP, HALT");
    }

    private static void sixBehind() {
        sound(FIVE + ", CONST 6, HALT");
        sound(FIVE + ", LOAD 0, HALT");
        sound(FIVE + ", DUP, HALT");
        sound(SIX + ", SWAP, HALT");
        sound(SIX + ", ADD, CONST 9, HALT");
        sound(SIX + ", STORE 1, DUP, HALT");
        sound(SIX + ", GOTO 7, HALT");
        sound(SIX + ", IF 7, HALT");
    }

    private static void sixAreThere() {
        TraceTier x = Due.begun(0, 0, SIX + ", SWAP, HALT");
        x.run(6);
        Due.stack("six", x, 6, 5, 4, 3, 2, 1);
        x.run(1);
        Due.stack("SWAP at six", x, 5, 6, 4, 3, 2, 1);
    }

    private static void goingOnBehindTheLast() {
        unsound("CONST 1");
        unsound("LOAD 0, DROP");
        unsound("CONST 1, STORE 0");
        unsound("CONST 1, DUP");
        unsound("CONST 1, CONST 1, ADD");
        unsound("CONST 1, OUT");
        unsound("CONST 1, IF 0");
        sound("CONST 1, HALT");
        sound("CONST 1, DROP, GOTO 0");
    }

    private static void gotoBehindTheLast() {
        unsound("GOTO 1");
        unsound("GOTO 39");
        unsound("LOAD 0, IF 3, HALT, GOTO 4");
    }

    private static void ifBehindTheLast() {
        unsound("CONST 0, IF 3, HALT");
        unsound("CONST 1, IF 39, HALT");
    }

    private static void toTheLast() {
        sound("GOTO 1, HALT");
        sound("CONST 1, IF 2, HALT");
        sound("CONST 1, IF 3, HALT, GOTO 3");
        TraceTier x = Due.run(1, 0, 0, "GOTO 1, HALT");
        Due.same("the last one comes up", x.count(0), 1);
    }

    private static TraceTier forty(String last) {
        TraceTier x = new TraceTier();
        for (int i = 0; i < 19; i++) {
            Due.append(x, "LOAD 0, DROP");
        }
        Due.append(x, "LOAD 0, " + last);
        return x;
    }

    private static void behindTheFortieth() {
        Refused.argument("DROP as the fortieth", () -> forty("DROP"), x -> x.begin(0, 0, true));
        Refused.argument("IF as the fortieth", () -> forty("IF 0"), x -> x.begin(0, 0, true));
        Due.isFalse("HALT as the fortieth: begun before", forty("HALT").begin(0, 0, true));
        TraceTier x = new TraceTier();
        for (int i = 0; i < 39; i++) {
            Due.append(x, "GOTO " + (i + 1));
        }
        Due.append(x, "GOTO 39");
        Due.isFalse("GOTO itself as the fortieth: begun before", x.begin(0, 0, true));
        x.run(60);
        Due.same("it is there", x.count(0), 39);
    }

    private static void notReached() {
        sound("GOTO 3, ADD, GOTO 39, HALT");
        sound("HALT, CONST 1");
        sound("HALT, ADD");
        sound("HALT, GOTO 0, CONST 1, GOTO 0");
        sound("HALT, CONST 1, GOTO 1");
        sound("GOTO 0, IF 39");
    }

    private static void eitherWay() {
        unsound("CONST 1, IF 3, ADD, HALT");
        unsound("CONST 0, IF 3, HALT, ADD, HALT");
        unsound("CONST 0, IF 3, HALT, DROP, HALT");
        unsound("CONST 0, IF 4, HALT, HALT, GOTO 5");
    }

    private static void onlyWhatIsThere() {
        TraceTier x = Due.with("HALT, HALT, HALT");
        x.clear();
        x.add(Due.CONST, 1);
        Due.throwsExactly("no HALT behind it any more", x, y -> y.begin(0, 0, true), IllegalArgumentException.class);
        x.add(Due.HALT, 0);
        Due.isFalse("with one: begun before", x.begin(0, 0, true));
        TraceTier y = Due.begun(0, 0, "LOAD 0, LOAD 1, ADD, OUT, HALT");
        y.clear();
        Due.append(y, "HALT, ADD, ADD, ADD, ADD");
        Due.isFalse("what was reached before is not reached now: begun before", y.begin(0, 0, true));
    }
}
