import java.util.Random;

/** The promises 16 to 24: the sentences that name no boundary case and that no other test quotes, a test for each. */
public final class SentenceWouldTest {
    private static final Expect expect = new Expect("SentenceWouldTest");
    /** An object is used for at most 512 calls. */
    private static final int CALLS = 512;

    // ---- promises 16 to 20

    private static void everyBallWould() {
        PinDeck lane = new PinDeck();
        int calls = 0;
        for (int i = 0; i < 41 * 5 * 4; i++) {
            int board = i % 41;
            int drift = i / 41 % 5 - 2;
            int what = i / 205;
            if (calls == CALLS) {
                lane = new PinDeck();
                calls = 0;
            }
            int got = lane.would(board, drift, what);
            calls++;
            expect.holds("would(" + board + ", " + drift + ", " + what + ") answered " + got,
                    got >= 0 && got <= (what < 2 ? 1023 : 10));
        }
    }

    private static void bestOfEachDrift() {
        for (int drift = -2; drift <= 2; drift++) {
            PinDeck lane = Expect.after(5);
            int due = 0;
            for (int board = 1; board <= 40; board++) {
                due = lane.would(board, drift, 2) > lane.would(due, drift, 2) ? board : due;
            }
            expect.same("bestBoard(" + drift + ")", due, lane.bestBoard(drift));
        }
    }

    private static void goesOnWithEveryBall() {
        PinDeck over = Expect.allStrikes();
        for (int board = 0; board <= 40; board++) {
            for (int drift = -2; drift <= 2; drift++) {
                expect.same("goesOn(" + board + ", " + drift + ") at the end", 300, over.goesOn(board, drift));
            }
        }
    }

    /** The pins that drop behind a roll beside them, the sensors telling all as standing, are those that would. */
    private static void dropsAsThePinsDrop() {
        for (int seed = 0; seed < 200; seed++) {
            Random random = new Random(seed);
            PinDeck lane = new PinDeck();
            lane.set(1, 3);
            lane.set(2, seed % 4);
            for (int k = 0; k < 10; k++) {
                lane.touch(k, random.nextInt(4));
            }
            int due = lane.drops();
            expect.same("a roll beside all pins", 0, Expect.beside(lane, false));
            int dropped = 0;
            for (int k = 0; k < 10; k++) {
                dropped |= lane.pin(k, 0) == 4 ? 1 << k : 0;
            }
            expect.same("the pins that dropped", due, dropped);
            expect.same("how many dropped", Integer.bitCount(due), lane.about(5));
        }
    }

    private static void refusedWould() {
        expect.changesNothing("would(41, 0, 0)", lane -> lane.would(41, 0, 0));
        expect.changesNothing("would(20, 3, 0)", lane -> lane.would(20, 3, 0));
        expect.changesNothing("would(20, 0, 4)", lane -> lane.would(20, 0, 4));
    }

    private static void refusedBestBoard() {
        expect.changesNothing("bestBoard(3)", lane -> lane.bestBoard(3));
    }

    private static void refusedGoesOn() {
        expect.changesNothing("goesOn(-1, 0)", lane -> lane.goesOn(-1, 0));
        expect.changesNothing("goesOn(20, -3)", lane -> lane.goesOn(20, -3));
    }

    private static void refusedScript() {
        expect.changesNothing("runScript(4, 0)", lane -> lane.runScript(4, 0));
        expect.changesNothing("runScript(1, 100000)", lane -> lane.runScript(1, 100000));
        expect.changesNothing("runScript(2, -1)", lane -> lane.runScript(2, -1));
    }

    private static void refusedSimulate() {
        expect.changesNothing("simulate(1, 0)", lane -> lane.simulate(1, 0));
        expect.changesNothing("simulate(1, 61)", lane -> lane.simulate(1, 61));
    }

    /** A lane in the middle of a frame, with pins and settings of many kinds. */
    private static PinDeck laneOf(int seed) {
        PinDeck lane = Expect.after(10, seed % 10);
        lane.touch(9, seed % 3);
        lane.set(1, seed % 4);
        lane.set(2, seed / 4 % 4);
        return lane;
    }

    private static final int QUESTIONS = 9;

    private static int answer(PinDeck lane, int question) {
        switch (question) {
            case 0: return lane.would(18, 1, 0);
            case 1: return lane.would(18, 1, 1);
            case 2: return lane.would(18, 1, 2) + 100 * lane.would(18, 1, 3);
            case 3: return lane.bestBoard(-1);
            case 4: return lane.slowest();
            case 5: return lane.goesOn(19, 2);
            case 6: return lane.drops();
            case 7: return lane.runScript(3, 120206000580012L);
            default: return lane.simulate(5, 40);
        }
    }

    /** The answer of a call is the same, whichever of these calls have been done ahead of it on the same lane. */
    private static void othersChangeNothing() {
        for (int seed = 0; seed < 40; seed++) {
            Random random = new Random(seed);
            PinDeck used = laneOf(seed);
            String before = Expect.seen(used);
            for (int i = 0; i < 60; i++) {
                int question = random.nextInt(QUESTIONS);
                expect.same("the question " + question, answer(laneOf(seed), question), answer(used, question));
            }
            expect.equal("the states", before, Expect.seen(used));
        }
    }

    // ---- promises 21 and 22

    private static void numbersOfCommands() {
        PinDeck lane = new PinDeck();
        long script = 0;
        for (int n = 1; n <= 3; n++) {
            script = script * 100000 + 50000;
            expect.same("a script of " + n, PinDeck.NONE, lane.runScript(n, script));
        }
        expect.badArgument("a script of 4", () -> lane.runScript(4, 50000));
        expect.badArgument("a script of none", () -> lane.runScript(0, 0));
    }

    /** The digits 1 to 5 of each of the three groups: moved by one place, they are no command any more. */
    private static void fiveDigits() {
        PinDeck lane = new PinDeck();
        expect.same("three groups", PinDeck.NONE, lane.runScript(3, 393007930060010L));
        expect.same("the second group is the one that fails", 1, lane.runScript(3, 393007920060010L));
        expect.same("the third group is the one that fails", 2, lane.runScript(3, 393007930060009L));
        expect.same("one place to the right", 0, lane.runScript(3, 39300793006001L));
        expect.same("d2 and d3 the other way about", 0, lane.runScript(1, 34900));
        expect.same("d3 and d4 the other way about", 0, lane.runScript(1, 39030));
    }

    /** Whether a group of a script succeeds on a new lane, as the document says of each digit. */
    private static boolean succeedsOnNewLane(int group) {
        String digits = String.format("%05d", group);
        int d2 = digits.charAt(1) - '0';
        int d3 = digits.charAt(2) - '0';
        int d4 = digits.charAt(3) - '0';
        int d5 = digits.charAt(4) - '0';
        switch (digits.charAt(0)) {
            case '1':
            case '2': return 10 * d2 + d3 <= 40 && d4 <= 4 && d5 == 0;
            case '3': return d3 <= 3 && d4 == 0 && d5 == 0;
            case '4':
                int vv = 10 * d3 + d4;
                return d5 == 0 && (d2 == 0 && vv >= 3 && vv <= 90 || (d2 == 1 || d2 == 2) && vv <= 3);
            case '5': return digits.equals("50000");
            case '6': return digits.startsWith("600") && d4 > 0;
            case '7': return d3 == 0 && d4 == 0 && d5 == 0;
            case '8': return digits.equals("80000");
            case '9': return digits.endsWith("000");
            default: return false;
        }
    }

    private static void everyGroup() {
        PinDeck lane = new PinDeck();
        for (int group = 0; group < 100000; group++) {
            if (group % CALLS == 0) {
                lane = new PinDeck();
            }
            expect.same("runScript(1, " + group + ")", succeedsOnNewLane(group) ? PinDeck.NONE : 0,
                    lane.runScript(1, group));
        }
    }

    /** Of two digits the first one counts ten, of three the first one a hundred. */
    private static void decimalNumbers() {
        PinDeck lane = new PinDeck();
        expect.same("would(12, 0, 2)", 2, lane.would(12, 0, 2));
        expect.same("would(21, 0, 2)", 4, lane.would(21, 0, 2));
        expect.same("bb as 12", PinDeck.NONE, lane.runScript(2, 1122080002L));
        expect.same("bb as 12 takes no more", 1, lane.runScript(2, 1122080003L));
        expect.same("bb as 21", PinDeck.NONE, lane.runScript(2, 1212080004L));
        expect.same("bb as 21 takes no more", 1, lane.runScript(2, 1212080005L));
        expect.same("vv as 90", PinDeck.NONE, lane.runScript(1, 40900));
        expect.same("vv as 09", PinDeck.NONE, lane.runScript(1, 40090));
        expect.same("vv as 20", PinDeck.NONE, lane.runScript(1, 40200));
        expect.same("vv as 02", 0, lane.runScript(1, 40020));
        expect.same("nn as 10", PinDeck.NONE, lane.runScript(1, 60010));
        expect.same("nn as 01", 0, lane.runScript(1, 60001));
        PinDeck points = Expect.allStrikes();
        points.begin();
        Expect.take(points, 10);
        Expect.take(points, 1);
        expect.same("the points", 12, points.about(3));
        expect.same("ppp as 012", PinDeck.NONE, points.runScript(1, 80012));
        expect.same("ppp as 021", 0, points.runScript(1, 80021));
        expect.same("ppp as 120", 0, points.runScript(1, 80120));
    }

    private static void wrongScripts() {
        PinDeck lane = new PinDeck();
        for (int n : new int[] {0, 4, -3, Integer.MIN_VALUE, Integer.MAX_VALUE}) {
            for (long script : new long[] {50000, 0, -1, Long.MAX_VALUE}) {
                expect.badArgument("runScript(" + n + ", " + script + ")", () -> lane.runScript(n, script));
            }
        }
        long least = 1;
        for (int n = 1; n <= 3; n++) {
            int commands = n;
            least *= 100000;
            for (long script : new long[] {least, least + 50000, 10 * least, -least, -1, Long.MIN_VALUE,
                Long.MAX_VALUE}) {
                expect.badArgument("runScript(" + n + ", " + script + ")", () -> lane.runScript(commands, script));
            }
        }
    }

    private static void wrongTurns() {
        PinDeck lane = new PinDeck();
        for (int m : new int[] {0, 61, -60, 1000, Integer.MIN_VALUE, Integer.MAX_VALUE}) {
            expect.badArgument("simulate(7, " + m + ")", () -> lane.simulate(7, m));
        }
    }

    // ---- promises 23 and 24

    private static void slotsToSave() {
        PinDeck lane = Expect.after(3);
        expect.same("save(0)", 1, lane.save(0));
        Expect.take(lane, 4);
        expect.same("save(1)", 2, lane.save(1));
    }

    private static void slotsToRestore() {
        PinDeck lane = Expect.after(3);
        lane.save(0);
        Expect.take(lane, 4);
        lane.save(1);
        lane.begin();
        expect.same("restore(1)", 2, lane.restore(1));
        expect.same("what the second roll of its game took", 4, lane.taken(1));
        expect.same("restore(0)", 1, lane.restore(0));
        expect.outOfBounds("a second roll of its game", () -> lane.taken(1));
    }

    private static void testWould() {
        expect.test(16, "- `board`: 0 to 40 - `drift`: -2 to 2 - `what`: 0", SentenceWouldTest::everyBallWould);
        expect.test(17, "- `drift`: -2 to 2", SentenceWouldTest::bestOfEachDrift);
        expect.test(19, "- `board`: 0 to 40 - `drift`: -2 to 2", SentenceWouldTest::goesOnWithEveryBall);
        expect.test(20, "Tells which pins would drop.", SentenceWouldTest::dropsAsThePinsDrop);
    }

    private static void testExceptions() {
        expect.test(16, "A call that throws an exception changes nothing.", SentenceWouldTest::refusedWould);
        expect.test(17, "A call that throws an exception changes nothing.", SentenceWouldTest::refusedBestBoard);
        expect.test(19, "A call that throws an exception changes nothing.", SentenceWouldTest::refusedGoesOn);
        expect.test(21, "A call that throws an exception changes nothing.", SentenceWouldTest::refusedScript);
        expect.test(22, "A call that throws an exception changes nothing.", SentenceWouldTest::refusedSimulate);
        expect.test(22, "---- what would be; these and all following methods up to the save slots change nothing.",
                SentenceWouldTest::othersChangeNothing);
    }

    private static void testScripts() {
        expect.test(21, "A script has 1 to 3 commands", SentenceWouldTest::numbersOfCommands);
        expect.test(21, "each is a group of five decimal digits d1 to d5, and", SentenceWouldTest::fiveDigits);
        expect.test(21, "and so does any other group (also one with another digit where a 0 is written).",
                SentenceWouldTest::everyGroup);
        expect.test(21, "bb, vv, nn and ppp are decimal numbers.", SentenceWouldTest::decimalNumbers);
        expect.test(21, "Throws `IllegalArgumentException` if n is out of range, or if script is negative or has "
                + "more than 5 * n digits", SentenceWouldTest::wrongScripts);
        expect.test(22, "Throws `IllegalArgumentException` if m is out of range", SentenceWouldTest::wrongTurns);
    }

    private static void testSlots() {
        expect.test(23, "- `slot`: 0 or 1", SentenceWouldTest::slotsToSave);
        expect.test(24, "- `slot`: 0 or 1", SentenceWouldTest::slotsToRestore);
    }

    public static void main(String[] args) {
        testWould();
        testExceptions();
        testScripts();
        testSlots();
        expect.end();
    }
}
