/** The boundary cases of the promises 21 and 22, runScript and simulate: a test for each sentence. */
public final class EdgeScriptTest {
    private static final Expect expect = new Expect("EdgeScriptTest");
    private static final int NONE = PinDeck.NONE;

    private static void script(PinDeck lane, int n, long script, int due) {
        expect.same("runScript(" + n + ", " + script + ")", due, lane.runScript(n, script));
    }

    private static void succeed(PinDeck lane, int... commands) {
        for (int command : commands) {
            script(lane, 1, command, NONE);
        }
    }

    private static void fail(PinDeck lane, int... commands) {
        for (int command : commands) {
            script(lane, 1, command, 0);
        }
    }

    /** The second command tells what the first one has done: which command succeeds, and which fails. */
    private static void then(PinDeck lane, int first, int succeeds, int fails) {
        script(lane, 2, first * 100000L + succeeds, NONE);
        script(lane, 2, first * 100000L + fails, 1);
    }

    /** Of a group, a digit that has to be 0 becomes each other one. */
    private static void zeros(PinDeck lane, int command, int... places) {
        succeed(lane, command);
        for (int place : places) {
            for (int digit = 1; digit <= 9; digit++) {
                fail(lane, command + digit * place);
            }
        }
    }

    // ---- promise 21

    private static void numbers() {
        PinDeck lane = new PinDeck();
        script(lane, 1, 50000L, NONE);
        script(lane, 2, 5000050000L, NONE);
        script(lane, 3, 500005000050000L, NONE);
        int[] wrong = {0, 4, -1, Integer.MIN_VALUE, Integer.MAX_VALUE};
        for (int n : wrong) {
            expect.badArgument("runScript(" + n + ", 50000)", () -> lane.runScript(n, 50000L));
            expect.badArgument("runScript(" + n + ", 0)", () -> lane.runScript(n, 0L));
        }
    }

    private static void digits() {
        PinDeck lane = new PinDeck();
        long[] most = {99999L, 9999999999L, 999999999999999L};
        for (int n = 1; n <= 3; n++) {
            int number = n;
            long high = most[n - 1];
            script(lane, n, 0L, 0);
            script(lane, n, high, 0);
            expect.badArgument("a script of " + n + " with a digit more", () -> lane.runScript(number, high + 1));
            expect.badArgument("a script of " + n + " below 0", () -> lane.runScript(number, -1L));
            expect.badArgument("the least script of " + n, () -> lane.runScript(number, Long.MIN_VALUE));
            expect.badArgument("the greatest script of " + n, () -> lane.runScript(number, Long.MAX_VALUE));
            expect.badArgument("a script of " + n + " below 0 by much", () -> lane.runScript(number, -50000L));
        }
        expect.badArgument("two commands for one", () -> lane.runScript(1, 5000050000L));
        expect.badArgument("three commands for two", () -> lane.runScript(2, 500005000050000L));
    }

    private static void highestGroupFirst() {
        PinDeck lane = new PinDeck();
        script(lane, 2, 3010070100L, NONE);
        script(lane, 2, 7010030100L, 0);
        script(lane, 3, 301003020070200L, NONE);
        script(lane, 3, 302003010070200L, 2);
        script(lane, 3, 301007010070200L, 2);
        script(lane, 3, 301007020070200L, 1);
    }

    private static void zerosAhead() {
        PinDeck lane = new PinDeck();
        script(lane, 2, 50000L, 0);
        script(lane, 3, 50000L, 0);
        script(lane, 3, 5000050000L, 0);
        script(lane, 1, 9999L, 0);
        script(lane, 2, 999950000L, 0);
    }

    private static void firstThatFails() {
        PinDeck lane = new PinDeck();
        script(lane, 3, 500005000050000L, NONE);
        script(lane, 3, 500005000000000L, 2);
        script(lane, 3, 500000000050000L, 1);
        script(lane, 3, 500000000000000L, 1);
        script(lane, 3, 50000L * 100001L, 0);
        script(lane, 3, 0L, 0);
        script(lane, 2, 5000000000L, 1);
    }

    private static void rolls() {
        PinDeck lane = new PinDeck();
        succeed(lane, 10020, 14020, 10920, 11920, 13920, 12000, 12010, 12030, 12040, 10000, 14040);
        fail(lane, 14120, 14920, 15020, 19920, 12050, 12060, 12090, 10050, 14150);
        zeros(lane, 12020, 1);
        PinDeck over = Expect.over();
        fail(over, 12020, 10020, 22020);
        script(over, 2, 5000012020L, NONE);
        PinDeck last = Expect.aheadOfLast();
        succeed(last, 12020, 22020);
        script(last, 2, 1202012020L, 1);
        script(last, 3, 300003000012020L, NONE);
    }

    /** The takes are those of the drift d - 2 and of the two digits of the board, in their order. */
    private static void rollsOfEachDrift() {
        for (int d = 0; d <= 4; d++) {
            for (int board = 12; board <= 28; board++) {
                PinDeck lane = new PinDeck();
                int takes = lane.would(board, d - 2, 2);
                then(lane, 10000 + 100 * board + 10 * d, 80000 + takes, 80001 + takes);
            }
        }
    }

    private static void speedOfRolls() {
        PinDeck lane = new PinDeck();
        lane.set(0, 3);
        then(lane, 12020, 80006, 80007);
        then(lane, 22020, 80000, 80001);
        script(lane, 3, 400301202080006L, NONE);
        script(lane, 3, 409001202080006L, NONE);
        script(lane, 3, 332002202073400L, NONE);
        script(lane, 3, 332001202073400L, NONE);
    }

    private static void fouls() {
        PinDeck lane = new PinDeck();
        succeed(lane, 20020, 24020, 22000, 22040);
        fail(lane, 24120, 29920, 22050, 22090);
        zeros(lane, 22020, 1);
        then(lane, 22020, 80000, 80001);
        then(lane, 22020, 60010, 60009);
        then(lane, 12020, 60002, 60001);
        PinDeck last = Expect.aheadOfLast();
        script(last, 2, 2202022020L, 1);
    }

    private static void touches() {
        PinDeck lane = new PinDeck();
        succeed(lane, 30000, 39000, 30300, 39300);
        fail(lane, 30400, 39400, 30900);
        zeros(lane, 30000, 1, 10);
        zeros(lane, 39300, 1, 10);
        then(lane, 39300, 79300, 79000);
        script(lane, 3, 393003910079100L, NONE);
        PinDeck fallen = Expect.after(1);
        fail(fallen, 30000, 30300, 30400);
        succeed(fallen, 31000);
        script(fallen, 2, 5000030300L, NONE);
    }

    private static void settings() {
        PinDeck lane = new PinDeck();
        succeed(lane, 40030, 40900, 41000, 41030, 42000, 42030);
        fail(lane, 40020, 40000, 40910, 40990, 41040, 41100, 41990, 42040, 42100, 43000, 43030, 49030);
        zeros(lane, 40030, 1);
        zeros(lane, 42030, 1);
        script(lane, 3, 410001202080008L, NONE);
        script(lane, 3, 410101202080008L, NONE);
        script(lane, 3, 410201202080008L, 2);
        script(lane, 3, 410301202080006L, NONE);
        script(lane, 3, 420301202060004L, NONE);
        script(lane, 3, 420301202060003L, 2);
    }

    private static void settingsOfState() {
        PinDeck lane = new PinDeck();
        lane.set(1, 0);
        then(lane, 12020, 80008, 80009);
        lane.set(1, 3);
        then(lane, 12020, 60002, 60001);
        lane.set(2, 3);
        then(lane, 12020, 60004, 60003);
    }

    private static void begins() {
        zeros(new PinDeck(), 50000, 1, 10, 100, 1000);
        PinDeck over = Expect.allStrikes();
        then(over, 50000, 80000, 80001);
        then(over, 50000, 60010, 60009);
        script(over, 2, 5000012020L, NONE);
    }

    private static void toldAtMost() {
        PinDeck lane = new PinDeck();
        succeed(lane, 60010, 60011, 60099);
        fail(lane, 60009, 60000, 60001);
        zeros(lane, 60010, 100, 1000);
        PinDeck one = Expect.after(9);
        succeed(one, 60001, 60002, 60010);
        fail(one, 60000);
        succeed(Expect.allStrikes(), 60000, 60001, 60099);
    }

    private static void leans() {
        PinDeck lane = new PinDeck();
        succeed(lane, 70000, 79000);
        fail(lane, 70100, 70200, 70300, 70400, 70500, 70900, 79400);
        zeros(lane, 70000, 1, 10);
        zeros(lane, 79000, 1, 10);
        for (int v = 0; v <= 3; v++) {
            lane.touch(9, v);
            succeed(lane, 79000 + 100 * v);
            fail(lane, 79000 + 100 * (v + 1));
        }
        PinDeck fallen = Expect.after(1);
        succeed(fallen, 70400, 71000);
        fail(fallen, 70000, 70300, 70500, 71400);
    }

    private static void pointsAtLeast() {
        PinDeck lane = new PinDeck();
        succeed(lane, 80000);
        fail(lane, 80001, 80010, 80100, 80999);
        zeros(lane, 80000, 1000);
        PinDeck best = Expect.allStrikes();
        succeed(best, 80000, 80030, 80299, 80300);
        fail(best, 80301, 80310, 80400, 80999);
        PinDeck some = Expect.after(10, 3, 4);
        succeed(some, 80023, 80024);
        fail(some, 80025, 80034, 80124);
    }

    private static void marks() {
        PinDeck lane = Expect.after(10, 4, 6, 3);
        succeed(lane, 90001, 91002, 92000, 93000, 99000);
        fail(lane, 90000, 90002, 91000, 91001, 92001, 92002, 99001);
        for (int s = 3; s <= 9; s++) {
            fail(lane, 90000 + s, 91000 + s, 92000 + s);
        }
        zeros(lane, 92000, 10, 100);
        zeros(lane, 90001, 10, 100);
        PinDeck best = Expect.allStrikes();
        succeed(best, 90001, 98001, 99001);
        fail(best, 99000, 99002);
    }

    private static void otherGroups() {
        PinDeck lane = new PinDeck();
        fail(lane, 0, 1, 9, 10, 100, 1000, 2020, 5000, 9000, 9999);
    }

    private static void scriptChangesNothing() {
        PinDeck lane = Expect.after(10, 3);
        lane.touch(9, 2);
        String before = Expect.seen(lane);
        script(lane, 3, 120202202039300L, NONE);
        script(lane, 3, 400904103050000L, NONE);
        script(lane, 2, 5000000000L, 1);
        expect.badArgument("runScript(0, 0)", () -> lane.runScript(0, 0));
        expect.equal("the states", before, Expect.seen(lane));
        expect.same("undo", 13, lane.undo());
        expect.badState("restore(0)", () -> lane.restore(0));
        script(new PinDeck(), 1, 70000, NONE);
    }

    private static void eachScriptAnew() {
        PinDeck lane = new PinDeck();
        script(lane, 1, 39300, NONE);
        script(lane, 1, 79000, NONE);
        script(lane, 1, 12020, NONE);
        script(lane, 1, 60009, 0);
        script(lane, 1, 80001, 0);
    }

    // ---- promise 22

    private static void turns(int... takes) {
        for (int m = 1; m <= 60; m++) {
            long seed = 77L * m - 1000;
            expect.same("simulate(" + seed + ", " + m + ") behind " + takes.length + " rolls",
                    Expect.turns(Expect.after(takes), seed, m), Expect.after(takes).simulate(seed, m));
        }
    }

    private static void numbersOfTurns() {
        PinDeck lane = new PinDeck();
        expect.same("simulate(0, 1)", Expect.turns(new PinDeck(), 0, 1), lane.simulate(0, 1));
        expect.same("simulate(0, 60)", Expect.turns(new PinDeck(), 0, 60), lane.simulate(0, 60));
        int[] wrong = {0, 61, -1, Integer.MIN_VALUE, Integer.MAX_VALUE};
        for (int m : wrong) {
            expect.badArgument("simulate(0, " + m + ")", () -> lane.simulate(0, m));
        }
    }

    private static void seeds() {
        long[] seeds = {0, 1, -1, Long.MIN_VALUE, Long.MIN_VALUE + 1, Long.MAX_VALUE, Integer.MAX_VALUE,
            Integer.MIN_VALUE, 1L << 33, -1L << 33, 6364136223846793005L};
        for (long seed : seeds) {
            PinDeck lane = new PinDeck();
            for (int m = 1; m <= 60; m++) {
                expect.same("simulate(" + seed + ", " + m + ")", Expect.turns(new PinDeck(), seed, m),
                        lane.simulate(seed, m));
            }
        }
    }

    private static void eachTurn() {
        turns();
        turns(10);
        turns(4);
        turns(4, 6);
    }

    /** A seed that becomes this x in the first turn: the step that replaces x is taken back. */
    private static long seedOf(long x) {
        long inverse = 1;
        for (int i = 0; i < 6; i++) {
            inverse *= 2 - 6364136223846793005L * inverse;
        }
        return (x - 1442695040888963407L) * inverse;
    }

    /** An x whose turn has the number r, 0 to 2147483647; the low 33 binary digits matter to later turns alone. */
    private static long turn(long r, long low) {
        return (r << 33) + low;
    }

    private static void stepsOfX() {
        expect.same("the first x of the seed 0", 1442695040888963407L, -seedOf(0) * 6364136223846793005L);
        long[] numbers = {0, 1, 7, 8, (1L << 31) - 1, (1L << 31) - 8};
        for (long r : numbers) {
            for (long low = 0; low < 40; low++) {
                long x = turn(r, low * 19088743L);
                expect.same("the turn " + r + " and 20 more", Expect.turns(new PinDeck(), seedOf(x), 21),
                        new PinDeck().simulate(seedOf(x), 21));
            }
        }
    }

    private static void touchesOfTurns() {
        for (int k = 0; k < 10; k++) {
            for (int v = 0; v < 4; v++) {
                int q = 0;
                while (q % 10 != k || q / 16 % 4 != v) {
                    q++;
                }
                for (long low = 0; low < 60; low++) {
                    long x = turn(8L * q, low * 19088743L);
                    PinDeck lane = new PinDeck();
                    lane.touch(k, v);
                    expect.same("touch(" + k + ", " + v + ") and 3 turns", Expect.turns(lane, x, 3),
                            new PinDeck().simulate(seedOf(x), 4));
                }
            }
        }
    }

    private static void setsOfTurns() {
        for (int q = 0; q < 8; q++) {
            int what = 1 + q % 2;
            int v = q / 2;
            for (long low = 0; low < 200; low++) {
                long x = turn(8L * q + 1, low * 19088743L);
                PinDeck lane = new PinDeck();
                lane.set(what, v);
                expect.same("set(" + what + ", " + v + ") and 6 turns", Expect.turns(lane, x, 6),
                        new PinDeck().simulate(seedOf(x), 7));
            }
        }
    }

    /** The number of a turn that rolls such a ball. */
    private static int rollNumber(int board, int drift, int speed, boolean foul) {
        for (int q = 0; q < 1 << 20; q++) {
            if (10 + q % 21 == board && q / 32 % 5 - 2 == drift && 1 + q / 256 % 30 == speed
                    && (q / 8192 % 16 == 0) == foul) {
                return 8 * q + 2;
            }
        }
        return -1;
    }

    private static void rollsOfTurns() {
        for (int r = 2; r <= 7; r++) {
            PinDeck lane = new PinDeck();
            int due = 1000 + lane.would(20, 0, 2);
            expect.same("a turn that rolls", due,
                    lane.simulate(seedOf(turn(rollNumber(20, 0, 30, false) - 2 + r, 0)), 1));
        }
        int[] boards = {10, 17, 20, 23, 30};
        for (int board : boards) {
            for (int drift = -2; drift <= 2; drift++) {
                PinDeck lane = new PinDeck();
                int number = rollNumber(board, drift, 30, false);
                expect.same("a turn that rolls at " + board, 1000 + lane.would(board, drift, 2),
                        lane.simulate(seedOf(turn(number, 0)), 1));
                expect.same("a turn that is a foul", 1000,
                        lane.simulate(seedOf(turn(rollNumber(board, drift, 30, true), 0)), 1));
            }
        }
        for (int speed = 1; speed <= 30; speed++) {
            PinDeck lane = new PinDeck();
            expect.same("a turn with the speed " + speed, speed < 5 ? 0 : 1006,
                    lane.simulate(seedOf(turn(rollNumber(20, 0, speed, false), 0)), 1));
        }
    }

    /** A rake that is down for all balls slower than 23, or for none; and each leaning told and borne. */
    private static void settingsInTurns() {
        PinDeck fast = new PinDeck();
        fast.set(0, 3);
        expect.same("a turn that rolls with a speed of 22", 0,
                fast.simulate(seedOf(turn(rollNumber(20, 0, 22, false), 0)), 1));
        expect.same("a turn that rolls with a speed of 23", 1006,
                fast.simulate(seedOf(turn(rollNumber(20, 0, 23, false), 0)), 1));
        for (int i = 0; i < 16; i++) {
            for (int m = 1; m <= 10; m++) {
                PinDeck lane = new PinDeck();
                lane.set(0, 90);
                lane.set(1, i % 4);
                lane.set(2, i / 4);
                int got = lane.simulate(i, m);
                expect.same("simulate(" + i + ", " + m + ") with settings of " + i % 4 + " and " + i / 4,
                        Expect.turns(lane, i, m), got);
            }
        }
    }

    /** Behind 60 turns a game may be over: what is left of them is left out. */
    private static void turnsLeftOut() {
        PinDeck best = Expect.allStrikes();
        PinDeck worst = Expect.over();
        for (long seed = 0; seed < 20; seed++) {
            expect.same("simulate(" + seed + ", 60) of the best game at its end", 12300, best.simulate(seed, 60));
            expect.same("simulate(" + seed + ", 60) of the worst game at its end", 20000, worst.simulate(seed, 60));
        }
        PinDeck fallen = Expect.allDropped();
        int left = 0;
        for (int q = 0; q < 10; q++) {
            left += fallen.simulate(seedOf(turn(8L * q, 0)), 1) == 1000 ? 1 : 0;
        }
        expect.same("turns that touch a fallen pin", 10, left);
        int over = 0;
        PinDeck fast = new PinDeck();
        fast.set(0, 90);
        for (long seed = 0; seed < 40; seed++) {
            int rolls = fast.simulate(seed, 60) / 1000;
            over += rolls == 20 || rolls == 21 ? 1 : 0;
        }
        expect.same("games that are over behind 60 turns", 40, over);
    }

    private static void simulateAnswers() {
        expect.same("no rolls, no points", 0, new PinDeck().simulate(seedOf(turn(0, 0)), 1));
        expect.same("a stopped ball", 0, new PinDeck().simulate(seedOf(turn(rollNumber(20, 0, 1, false), 0)), 1));
        PinDeck lane = Expect.after(10, 10);
        int number = rollNumber(20, 0, 30, false);
        expect.same("the points of all frames", 3000 + 26 + 16 + 6, lane.simulate(seedOf(turn(number, 0)), 1));
    }

    private static void simulateChangesNothing() {
        PinDeck lane = Expect.after(10, 3);
        lane.touch(9, 2);
        String before = Expect.seen(lane);
        int once = lane.simulate(5, 60);
        expect.same("simulate again", once, lane.simulate(5, 60));
        expect.badArgument("simulate(5, 61)", () -> lane.simulate(5, 61));
        expect.equal("the states", before, Expect.seen(lane));
        expect.same("undo", 13, lane.undo());
        expect.badState("restore(1)", () -> lane.restore(1));
    }

    private static void testScripts() {
        expect.test(21, "- `n`: number of commands, 1 to 3", EdgeScriptTest::numbers);
        expect.test(21, "- `script`: the commands, a number of at most 5 * n digits (0 or more)",
                EdgeScriptTest::digits);
        expect.test(21, "the first command is the highest group of the number", EdgeScriptTest::highestGroupFirst);
        expect.test(21, "(with zeros before it, if it has fewer digits)", EdgeScriptTest::zerosAhead);
        expect.test(21, "Returns the index, from 0, of the first command that fails; NONE if all succeed.",
                EdgeScriptTest::firstThatFails);
        expect.test(21, "The commands 1 to 5 fail if the method would throw an exception", EdgeScriptTest::rolls);
        expect.test(21, "1 b b d 0: roll(bb, d - 2, 30, no foul)", EdgeScriptTest::rollsOfEachDrift);
        expect.test(21, "a ball of this speed not being stopped, whatever setting 0 is",
                EdgeScriptTest::speedOfRolls);
        expect.test(21, "2 b b d 0: the same with a foul", EdgeScriptTest::fouls);
        expect.test(21, "3 k v 0 0: touch(k, v)", EdgeScriptTest::touches);
        expect.test(21, "4 s v v 0: set(s, vv)", EdgeScriptTest::settings);
        expect.test(21, "Runs a script on a copy of the state.", EdgeScriptTest::settingsOfState);
        expect.test(21, "5 0 0 0 0: begin()", EdgeScriptTest::begins);
        expect.test(21, "6 0 0 n n: succeeds if at most nn pins are told as standing", EdgeScriptTest::toldAtMost);
        expect.test(21, "7 k v 0 0: succeeds if the pin k leans by v (4: it has fallen)", EdgeScriptTest::leans);
        expect.test(21, "8 0 p p p: succeeds if all frames have at least ppp points", EdgeScriptTest::pointsAtLeast);
        expect.test(21, "9 f 0 0 s: succeeds if the frame f has a strike with s as 1, a spare with s as 2, neither "
                + "with s as 0.", EdgeScriptTest::marks);
        expect.test(21, "and so does any other group", EdgeScriptTest::otherGroups);
        expect.test(21, "these and all following methods up to the save slots change nothing",
                EdgeScriptTest::scriptChangesNothing);
        expect.test(21, "Runs a script on a copy of the state.", EdgeScriptTest::eachScriptAnew);
    }

    private static void testSimulations() {
        expect.test(22, "number of turns, 1 to 60", EdgeScriptTest::numbersOfTurns);
        expect.test(22, "any long", EdgeScriptTest::seeds);
        expect.test(22, "A long x starts as the seed.", EdgeScriptTest::eachTurn);
        expect.test(22, "Each turn first replaces x by x * 6364136223846793005L + 1442695040888963407L (with long "
                + "overflow), and r = (int) (x >>> 33) is computed. q is r / 8.", EdgeScriptTest::stepsOfX);
        expect.test(22, "By r % 8: 0: touch(q % 10, q / 16 % 4).", EdgeScriptTest::touchesOfTurns);
        expect.test(22, "1: set(1 + q % 2, q / 2 % 4).", EdgeScriptTest::setsOfTurns);
        expect.test(22, "Otherwise: roll(10 + q % 21, q / 32 % 5 - 2, 1 + q / 256 % 30, q / 8192 % 16 is 0).",
                EdgeScriptTest::rollsOfTurns);
        expect.test(22, "If these are more than setting 0, the rake is down", EdgeScriptTest::settingsInTurns);
        expect.test(22, "What would throw an exception is left out.", EdgeScriptTest::turnsLeftOut);
        expect.test(22, "Returns 1000 * (the rolls of the game at the end) + (the points of all frames at the end).",
                EdgeScriptTest::simulateAnswers);
        expect.test(22, "Simulates m turns on a copy of the state.", EdgeScriptTest::simulateChangesNothing);
    }

    public static void main(String[] args) {
        testScripts();
        testSimulations();
        expect.covers(21, 22);
        expect.end();
    }
}
