/** The boundary cases of the promise 12 in the terms "the machine" and "a game": a test for each sentence. */
public final class EdgeMachineTest {
    private static final Expect expect = new Expect("EdgeMachineTest");

    private static void rack(String when, PinDeck lane) {
        for (int k = 0; k < 10; k++) {
            expect.same("the leaning of " + k + " " + when, 0, lane.pin(k, 0));
            expect.same("the shift of " + k + " " + when, 0, lane.pin(k, 1));
            expect.same("told of " + k + " " + when, 1, lane.pin(k, 3));
        }
    }

    // ---- sensors

    private static void leansByAtMost() {
        for (int most = 0; most <= 3; most++) {
            for (int v = 0; v <= 3; v++) {
                PinDeck lane = Expect.aheadOfLast();
                lane.set(1, most);
                lane.touch(5, v);
                int due = v <= most ? 1 : 0;
                expect.same("a leaning of " + v + " with setting 1 as " + most + ": taken", 1 - due,
                        Expect.beside(lane, false));
                expect.same("a leaning of " + v + " with setting 1 as " + most + ": told", due, lane.pin(5, 3));
            }
        }
    }

    private static void fallenPinsAreNotTold() {
        PinDeck lane = Expect.aheadOfLast();
        lane.set(1, 3);
        expect.same("a roll with setting 1 as 3", 6, lane.roll(20, 0, 30, false));
        expect.same("told of a fallen pin", 0, lane.pin(0, 3));
        expect.same("told of a leaning one", 1, lane.pin(3, 3));
        expect.same("told", 4, lane.about(7));
    }

    private static void takenOnce() {
        PinDeck lane = new PinDeck();
        lane.set(2, 3);
        lane.touch(0, 3);
        expect.same("a leaning pin is taken", 1, Expect.beside(lane, false));
        expect.same("it is not taken again", 0, Expect.beside(lane, false));
        PinDeck ten = new PinDeck();
        Expect.touchAll(ten, 3);
        expect.same("ten leaning pins", 10, Expect.beside(ten, false));
        PinDeck none = new PinDeck();
        Expect.touchAll(none, 2);
        expect.same("ten pins leaning by setting 1", 0, Expect.beside(none, false));
    }

    private static void sensorsAskedBehindRolls() {
        PinDeck lane = new PinDeck();
        lane.touch(4, 3);
        expect.same("told behind touch", 10, lane.about(7));
        lane.set(1, 0);
        expect.same("told behind set", 10, lane.about(7));
        lane.roll(20, 0, 1, false);
        expect.same("told behind a ball that is stopped", 10, lane.about(7));
        expect.same("taken behind a roll", 1, Expect.beside(lane, false));
        expect.same("told behind a roll", 9, lane.about(7));
    }

    // ---- fouls

    private static void foulTakesNothing() {
        PinDeck lane = new PinDeck();
        expect.same("a foul that would take 6", 0, lane.roll(20, 0, 30, true));
        expect.same("what it took", 0, lane.taken(0));
        expect.same("its rolls", 1, lane.about(2));
        expect.same("the fouls", 1, lane.about(6));
        PinDeck touched = new PinDeck();
        Expect.touchAll(touched, 3);
        expect.same("a foul with all pins leaning", 0, Expect.beside(touched, true));
        expect.same("the frame goes on", 0, touched.about(0));
    }

    private static void foulLeavesPins() {
        PinDeck lane = Expect.aheadOfLast();
        for (int k = 0; k < 4; k++) {
            lane.touch(k, k);
        }
        lane.roll(16, 0, 30, true);
        expect.leanings("behind a foul at the end", "0123000000", lane);
        for (int k = 0; k < 10; k++) {
            expect.same("the shift of " + k, 0, lane.pin(k, 1));
            expect.same("told of " + k, 1, lane.pin(k, 3));
        }
    }

    private static void foulAndMachine() {
        PinDeck lane = new PinDeck();
        for (int k = 0; k < 4; k++) {
            lane.touch(k, k);
        }
        lane.roll(20, 0, 30, true);
        expect.leanings("set again behind a foul", "0044000000", lane);
        expect.same("dropped behind a foul", 2, lane.about(5));
        lane.touch(4, 3);
        lane.roll(20, 0, 30, true);
        expect.same("the frame behind two fouls", 1, lane.about(0));
        rack("behind two fouls", lane);
        expect.same("dropped behind two fouls", 2, lane.about(5));
        PinDeck spare = Expect.lastFrame(4, 6);
        spare.roll(20, 0, 30, true);
        expect.same("over behind a foul", 1, spare.about(9));
    }

    // ---- pins set again

    private static void leansByMore() {
        for (int grips = 0; grips <= 3; grips++) {
            for (int v = 0; v <= 3; v++) {
                PinDeck lane = new PinDeck();
                lane.set(1, 3);
                lane.set(2, grips);
                lane.touch(5, v);
                Expect.beside(lane, false);
                String when = "with a leaning of " + v + " and setting 2 as " + grips;
                expect.same("dropped " + when, v > grips ? 1 : 0, lane.about(5));
                expect.same("the leaning " + when, v > grips ? 4 : 0, lane.pin(5, 0));
            }
        }
    }

    private static void dropped() {
        PinDeck lane = new PinDeck();
        lane.touch(9, 2);
        expect.same("the roll", 0, Expect.beside(lane, false));
        expect.same("it has fallen", 4, lane.pin(9, 0));
        expect.same("it is not told any more", 0, lane.pin(9, 3));
        expect.same("taken by nobody", 0, lane.about(3));
        expect.same("not taken by the next roll", 0, lane.roll(33, -1, 30, false));
        expect.same("a ball that meets this pin alone", 1, new PinDeck().roll(33, -1, 30, false));
        PinDeck nine = new PinDeck();
        nine.touch(9, 2);
        expect.same("a roll that takes the other nine", 9, Expect.take(nine, 9));
        expect.same("none is told", 0, nine.about(7));
        expect.same("no strike", 0, nine.frame(0, 2));
        expect.same("nothing is left", 0, nine.roll(33, -1, 30, false));
        expect.same("no spare", 0, nine.frame(0, 2));
    }

    private static void setWhereItStood() {
        PinDeck lane = new PinDeck();
        lane.roll(16, 0, 30, false);
        expect.same("the leaning behind a graze", 0, lane.pin(0, 0));
        expect.same("the shift behind a graze", 1, lane.pin(0, 1));
        expect.same("told behind a graze", 1, lane.pin(0, 3));
        PinDeck other = new PinDeck();
        other.set(2, 3);
        other.touch(0, 1);
        other.roll(24, 0, 30, false);
        expect.same("the leaning of 2, borne by the grips", 0, other.pin(0, 0));
        expect.same("its shift", -1, other.pin(0, 1));
    }

    private static void otherPinsHaveFallen() {
        PinDeck lane = new PinDeck();
        lane.set(1, 0);
        lane.set(2, 3);
        lane.touch(0, 1);
        lane.touch(1, 3);
        expect.same("two pins that lean are taken", 2, Expect.beside(lane, false));
        expect.leanings("they have fallen then", "4400000000", lane);
        expect.same("none has dropped", 0, lane.about(5));
    }

    // ---- frames

    private static void tenFrames() {
        PinDeck lane = new PinDeck();
        for (int f = 0; f < 10; f++) {
            expect.same("the frame", f, lane.about(0));
            expect.same("a first roll", 0, Expect.beside(lane, false));
            expect.same("the frame still", f, lane.about(0));
            expect.same("a second roll", 0, Expect.beside(lane, false));
        }
        expect.same("the game is over", 1, lane.about(9));
        expect.badState("a roll behind it", () -> Expect.beside(lane, false));
    }

    private static void oneRollIfStrike() {
        expect.same("the frame behind 10", 1, Expect.after(10).about(0));
        expect.same("the frame behind 9", 0, Expect.after(9).about(0));
        expect.same("the frame behind 0 and 10", 1, Expect.after(0, 10).about(0));
        expect.same("the rolls of 0 and 10", 2, Expect.after(0, 10).frame(0, 0));
    }

    private static void spares() {
        expect.same("9 and 1", 2, Expect.after(9, 1).frame(0, 2));
        expect.same("0 and 10", 2, Expect.after(0, 10).frame(0, 2));
        expect.same("10 and 0", 1, Expect.after(10, 0).frame(0, 2));
        expect.same("9 and 0", 0, Expect.after(9, 0).frame(0, 2));
        expect.same("9, 0 and 1", 0, Expect.after(9, 0, 1).frame(0, 2));
    }

    private static void thirdRoll() {
        int[][] overs = {{0, 0}, {4, 5}, {9, 0}, {0, 9}, {10, 0, 0}, {10, 10, 10}, {9, 1, 0}, {0, 10, 10}};
        for (int[] takes : overs) {
            expect.same("over behind " + takes.length + " rolls, the first of " + takes[0], 1,
                    Expect.lastFrame(takes).about(9));
        }
        int[][] goOn = {{10}, {9}, {10, 0}, {10, 10}, {9, 1}, {0, 10}};
        for (int[] takes : goOn) {
            expect.same("not over behind " + takes.length + " rolls, the first of " + takes[0], 0,
                    Expect.lastFrame(takes).about(9));
        }
        PinDeck eight = Expect.after(0, 0, 0, 0, 0, 0, 0, 0, 0, 0, 0, 0, 0, 0, 0, 0, 9, 1);
        expect.same("no third roll in the frame 8", 9, eight.about(0));
    }

    private static void newRackAheadOfFrames() {
        PinDeck lane = new PinDeck();
        lane.roll(16, 0, 30, false);
        lane.roll(20, 0, 30, false);
        rack("ahead of the frame 1", lane);
        PinDeck strike = new PinDeck();
        Expect.touchAll(strike, 3);
        expect.same("a ball that also grazes", 10, strike.roll(16, 0, 30, false));
        rack("behind a strike", strike);
        PinDeck spare = new PinDeck();
        spare.roll(16, 0, 30, false);
        Expect.take(spare, spare.about(7));
        expect.same("the frame behind all that were left", 1, spare.about(0));
        rack("behind all that were left", spare);
    }

    private static void newRacksInLastFrame() {
        rack("in the frame 9 behind a strike", Expect.lastFrame(10));
        rack("in the frame 9 behind 4 and 6", Expect.lastFrame(4, 6));
        rack("in the frame 9 behind 0 and 10", Expect.lastFrame(0, 10));
    }

    private static void secondStrike() {
        rack("in the frame 9 behind two strikes", Expect.lastFrame(10, 10));
        PinDeck nine = Expect.lastFrame(10, 9);
        expect.same("told behind a strike and 9", 1, nine.about(7));
        expect.same("told behind a strike and 0", 10, Expect.lastFrame(10, 0).about(7));
        PinDeck none = Expect.lastFrame(10);
        none.roll(16, 0, 30, false);
        expect.same("a shift is kept behind a strike and another roll", 1, none.pin(0, 1));
    }

    private static void setAgainAheadOfOtherRolls() {
        int[] takes = {0, 1, 5, 9};
        for (int n : takes) {
            PinDeck lane = Expect.after(n);
            expect.same("told behind " + n, 10 - n, lane.about(7));
            expect.same("not fallen behind " + n, 10 - n, lane.about(8));
            PinDeck last = Expect.lastFrame(n);
            expect.same("told in the frame 9 behind " + n, 10 - n, last.about(7));
            PinDeck third = Expect.lastFrame(10, n);
            expect.same("told in the frame 9 behind a strike and " + n, 10 - n, third.about(7));
            expect.same("not fallen in the frame 9 behind a strike and " + n, 10 - n, third.about(8));
        }
    }

    /** Nothing is set again: pins that are told may lean, and pins that are not told need not have fallen. */
    private static void nothingBehindTheEnd() {
        int[][] ahead = {{0}, {4}, {10, 0}, {10, 4}, {10, 10}, {4, 6}};
        for (int[] takes : ahead) {
            PinDeck lane = Expect.lastFrame(takes);
            lane.touch(8, 3);
            lane.touch(9, 2);
            String when = " behind the last of " + (takes.length + 1) + " rolls, the first of " + takes[0];
            expect.same("the last roll takes 1" + when, 1, Expect.beside(lane, false));
            expect.same("over" + when, 1, lane.about(9));
            expect.same("the leaning of 8" + when, 3, lane.pin(8, 0));
            expect.same("told of 8" + when, 0, lane.pin(8, 3));
            expect.same("the leaning of 9" + when, 2, lane.pin(9, 0));
            expect.same("told of 9" + when, 1, lane.pin(9, 3));
            expect.same("dropped" + when, 0, lane.about(5));
        }
        PinDeck strikes = Expect.allStrikes();
        expect.same("told behind 12 strikes", 0, strikes.about(7));
        expect.same("not fallen behind 12 strikes", 10, strikes.about(8));
        PinDeck all = Expect.lastFrame(10, 4, 6);
        expect.same("told behind a strike, 4 and 6", 0, all.about(7));
        expect.same("not fallen behind a strike, 4 and 6", 6, all.about(8));
    }

    private static void answers() {
        PinDeck lane = new PinDeck();
        expect.same("a ball that is stopped", PinDeck.NONE, lane.roll(20, 0, 4, false));
        expect.same("a ball that takes none", 0, lane.roll(0, 0, 5, false));
        expect.same("a foul", 0, lane.roll(20, 0, 5, true));
        expect.same("a ball that takes some", 6, lane.roll(20, 0, 5, false));
        Expect.beside(lane, false);
        Expect.touchAll(lane, 3);
        expect.same("a ball that takes all", 10, lane.roll(20, 0, 5, false));
    }

    private static void testMachine() {
        expect.test(12, "leans by at most setting 1", EdgeMachineTest::leansByAtMost);
        expect.test(12, "a pin is told as standing if it has not fallen", EdgeMachineTest::fallenPinsAreNotTold);
        expect.test(12, "The roll takes the pins that were told as standing ahead of it, and are not now.",
                EdgeMachineTest::takenOnce);
        expect.test(12, "Behind a roll, a pin is told as standing", EdgeMachineTest::sensorsAskedBehindRolls);
        expect.test(12, "With a foul it takes 0", EdgeMachineTest::foulTakesNothing);
        expect.test(12, "and all pins are as they were ahead of it", EdgeMachineTest::foulLeavesPins);
        expect.test(12, "(what the machine does behind a roll is done then, too)", EdgeMachineTest::foulAndMachine);
        expect.test(12, "Pins are set again in the middle of a frame: each that is told as standing is lifted; if it "
                + "leans by more than setting 2, it drops", EdgeMachineTest::leansByMore);
        expect.test(12, "it has fallen then, and is not told as standing any more, but is taken by nobody",
                EdgeMachineTest::dropped);
        expect.test(12, "otherwise it is set where it stood, with its shift, leaning by 0.",
                EdgeMachineTest::setWhereItStood);
        expect.test(12, "Each other pin has fallen then.", EdgeMachineTest::otherPinsHaveFallen);
    }

    private static void testGame() {
        expect.test(12, "There are 10 frames, numbered from 0.", EdgeMachineTest::tenFrames);
        expect.test(12, "A frame has two rolls, but only one if that takes 10 (a strike).",
                EdgeMachineTest::oneRollIfStrike);
        expect.test(12, "Two rolls that take 10 together, the first one not all of them, are a spare.",
                EdgeMachineTest::spares);
        expect.test(12, "In the frame 9 there is a third roll if its first one is a strike, or its first two are a "
                + "spare.", EdgeMachineTest::thirdRoll);
        expect.test(12, "Ahead of each frame", EdgeMachineTest::newRackAheadOfFrames);
        expect.test(12, "and in the frame 9 behind a strike and a spare, there is a new rack",
                EdgeMachineTest::newRacksInLastFrame);
        expect.test(12, "(in this frame a second roll of 10 behind a strike is one, too)",
                EdgeMachineTest::secondStrike);
        expect.test(12, "ahead of all other rolls of a frame, pins are set again",
                EdgeMachineTest::setAgainAheadOfOtherRolls);
        expect.test(12, "behind the last roll of the game nothing is done", EdgeMachineTest::nothingBehindTheEnd);
        expect.test(12, "Returns the pins that it takes; NONE if it is stopped.", EdgeMachineTest::answers);
    }

    public static void main(String[] args) {
        testMachine();
        testGame();
        expect.covers(12, 12);
        expect.end();
    }
}
