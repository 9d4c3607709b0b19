/** The boundary cases of the promises 16 to 20, what would be: a test for each sentence. */
public final class EdgeWouldTest {
    private static final Expect expect = new Expect("EdgeWouldTest");
    private static final int ALL = 1023;

    private static void would(String when, PinDeck lane, int board, int drift, int... due) {
        for (int what = 0; what < 4; what++) {
            expect.same("would(" + board + ", " + drift + ", " + what + ") " + when, due[what],
                    lane.would(board, drift, what));
        }
    }

    // ---- promise 16

    private static void wouldBoards() {
        PinDeck lane = new PinDeck();
        would("of a new object", lane, 0, 0, 0, 0, 0, 0);
        would("of a new object", lane, 40, 0, 0, 0, 0, 0);
        for (int what = 0; what < 4; what++) {
            int w = what;
            expect.badArgument("would(-1, 0, " + w + ")", () -> lane.would(-1, 0, w));
            expect.badArgument("would(41, 0, " + w + ")", () -> lane.would(41, 0, w));
        }
        for (int board : Expect.FAR) {
            expect.badArgument("would(" + board + ", 0, 0)", () -> lane.would(board, 0, 0));
        }
    }

    private static void wouldDrifts() {
        PinDeck lane = new PinDeck();
        would("of a new object", lane, 20, -2, 155, 324, 6, 1);
        would("of a new object", lane, 20, 2, 309, 642, 6, 1);
        expect.badArgument("would(20, -3, 0)", () -> lane.would(20, -3, 0));
        expect.badArgument("would(20, 3, 0)", () -> lane.would(20, 3, 0));
        for (int drift : Expect.FAR) {
            expect.badArgument("would(20, " + drift + ", 0)", () -> lane.would(20, drift, 0));
        }
    }

    private static void wouldWhat() {
        PinDeck lane = new PinDeck();
        would("of a new object", lane, 20, 0, 407, 40, 6, 0);
        expect.badArgument("would(20, 0, -1)", () -> lane.would(20, 0, -1));
        expect.badArgument("would(20, 0, 4)", () -> lane.would(20, 0, 4));
        for (int what : Expect.FAR) {
            expect.badArgument("would(20, 0, " + what + ")", () -> lane.would(20, 0, what));
        }
        expect.badArgument("would(41, 3, 4)", () -> lane.would(41, 3, 4));
    }

    private static void wouldNotStopped() {
        PinDeck lane = new PinDeck();
        lane.set(0, 3);
        would("with setting 0 as 3", lane, 20, 0, 407, 40, 6, 0);
    }

    private static void wouldFall() {
        PinDeck lane = new PinDeck();
        Expect.touchAll(lane, 3);
        would("with all pins leaning by 3", lane, 20, 0, ALL, 0, 10, 0);
        PinDeck last = Expect.after(9);
        would("with the pin 9 alone", last, 29, 0, 512, 0, 1, 0);
        would("with the pin 9 alone, beside it", last, 24, 0, 0, 0, 0, 0);
        PinDeck first = new PinDeck();
        for (int k = 1; k < 10; k++) {
            first.touch(k, 3);
        }
        Expect.beside(first, false);
        would("with the pin 0 alone", first, 20, 0, 1, 0, 1, 0);
        would("with no pins", Expect.allDropped(), 20, 0, 0, 0, 0, 0);
    }

    private static void wouldLean() {
        PinDeck lane = new PinDeck();
        Expect.touchAll(lane, 1);
        would("with all pins leaning by 1", lane, 0, 0, 0, ALL, 0, 0);
        lane.touch(9, 0);
        would("with the pin 9 upright", lane, 0, 0, 0, ALL - 512, 0, 0);
        lane.touch(0, 0);
        would("with the pin 0 upright, too", lane, 0, 0, 0, ALL - 513, 0, 0);
        PinDeck fallen = Expect.after(9);
        would("with fallen pins", fallen, 0, 0, 0, 0, 0, 0);
    }

    private static void wouldTake() {
        PinDeck lane = new PinDeck();
        Expect.touchAll(lane, 2);
        would("with all leaning by setting 1", lane, 0, 0, 0, ALL, 0, 0);
        lane.set(1, 1);
        would("with all leaning by more", lane, 0, 0, 0, ALL, 10, 10);
        lane.set(1, 3);
        would("with setting 1 as 3", lane, 20, 0, ALL, 0, 10, 0);
        PinDeck rolled = new PinDeck();
        for (int board = 0; board <= 40; board++) {
            int takes = rolled.would(board, 0, 2);
            expect.same("roll(" + board + ", 0)", takes, rolled.roll(board, 0, 30, false));
            rolled.undo();
        }
    }

    private static void wouldTakeStanding() {
        PinDeck lane = new PinDeck();
        Expect.touchAll(lane, 3);
        would("with all pins leaning by 3, beside them", lane, 0, 0, 0, ALL, 10, 10);
        lane.set(1, 3);
        would("with setting 1 as 3", lane, 0, 0, 0, ALL, 0, 0);
        lane.set(1, 0);
        lane.begin();
        would("with setting 1 as 0", lane, 20, 0, 407, 40, 8, 2);
    }

    /** Pins that are not told and have not fallen are there only behind the last roll. */
    private static void wouldOfTold() {
        PinDeck lane = Expect.lastFrame(10, 10, 10);
        would("with no pins that are told", lane, 20, 0, ALL, 0, 0, 0);
        would("with no pins that are told, beside them", lane, 0, 0, 0, ALL, 0, 0);
        PinDeck one = Expect.aheadOfLast();
        one.touch(0, 3);
        Expect.beside(one, false);
        would("with the pin 0 not told", one, 0, 0, 0, 1, 0, 0);
        would("with the pin 0 not told, on it", one, 20, 0, 407, 40, 5, 0);
    }

    /** The machine would make the pins that lean drop, and those that are taken fall. */
    private static void wouldAheadOfMachine() {
        PinDeck lane = new PinDeck();
        lane.touch(6, 2);
        lane.touch(9, 3);
        would("with two pins that lean", lane, 0, 0, 0, 64 + 512, 1, 1);
        PinDeck second = Expect.after(0);
        would("in the second roll of a frame", second, 20, 0, 407, 40, 6, 0);
    }

    private static void wouldAtTheEnd() {
        would("at the end", Expect.over(), 20, 0, 407, 40, 6, 0);
        would("behind 12 strikes", Expect.allStrikes(), 0, 0, 0, ALL, 0, 0);
    }

    private static void wouldChangesNothing() {
        for (int what = 0; what < 4; what++) {
            PinDeck lane = Expect.after(10, 3);
            lane.touch(9, 2);
            String before = Expect.seen(lane);
            for (int i = 0; i < 41 * 5; i++) {
                lane.would(i % 41, i / 41 - 2, what);
            }
            expect.badArgument("would(20, 0, 4)", () -> lane.would(20, 0, 4));
            expect.equal("the states", before, Expect.seen(lane));
            expect.same("undo", 13, lane.undo());
            expect.badState("restore(0)", () -> lane.restore(0));
        }
    }

    // ---- promise 17

    private static void bestDrifts() {
        PinDeck lane = new PinDeck();
        expect.same("bestBoard(-2)", 20, lane.bestBoard(-2));
        expect.same("bestBoard(0)", 20, lane.bestBoard(0));
        expect.same("bestBoard(2)", 19, lane.bestBoard(2));
        expect.badArgument("bestBoard(-3)", () -> lane.bestBoard(-3));
        expect.badArgument("bestBoard(3)", () -> lane.bestBoard(3));
        for (int drift : Expect.FAR) {
            expect.badArgument("bestBoard(" + drift + ")", () -> lane.bestBoard(drift));
        }
    }

    private static void bestMost() {
        PinDeck[] lanes = {new PinDeck(), Expect.after(1), Expect.after(5), Expect.after(9), Expect.over(),
            Expect.allStrikes(), Expect.allDropped()};
        for (PinDeck lane : lanes) {
            for (int drift = -2; drift <= 2; drift++) {
                int most = lane.would(lane.bestBoard(drift), drift, 2);
                for (int board = 0; board <= 40; board++) {
                    expect.holds("the board " + board + " takes no more than bestBoard(" + drift + ")",
                            lane.would(board, drift, 2) <= most);
                }
            }
        }
    }

    private static void bestLowest() {
        PinDeck lane = new PinDeck();
        lane.set(1, 1);
        expect.same("would(18, 0, 2)", 8, lane.would(18, 0, 2));
        expect.same("would(20, 0, 2)", 8, lane.would(20, 0, 2));
        expect.same("would(22, 0, 2)", 8, lane.would(22, 0, 2));
        expect.same("bestBoard(0) with three of them", 18, lane.bestBoard(0));
        PinDeck one = Expect.after(9);
        int[] due = {32, 29, 26, 23, 20};
        for (int drift = -2; drift <= 2; drift++) {
            expect.same("bestBoard(" + drift + ") for the pin 9", due[drift + 2], one.bestBoard(drift));
        }
    }

    private static void bestOfTheSame() {
        PinDeck none = Expect.allDropped();
        for (int drift = -2; drift <= 2; drift++) {
            expect.same("bestBoard(" + drift + ") without pins", 0, none.bestBoard(drift));
        }
        PinDeck all = new PinDeck();
        Expect.touchAll(all, 3);
        for (int drift = -2; drift <= 2; drift++) {
            expect.same("bestBoard(" + drift + ") with all taken anyway", 0, all.bestBoard(drift));
        }
        PinDeck end = Expect.allStrikes();
        expect.same("bestBoard(0) with no pins told", 0, end.bestBoard(0));
    }

    private static void bestOfSixAlone() {
        PinDeck lane = new PinDeck();
        Expect.touchAll(lane, 3);
        lane.touch(6, 0);
        Expect.beside(lane, false);
        int[] due = {14, 11, 8, 5, 2};
        for (int drift = -2; drift <= 2; drift++) {
            expect.same("bestBoard(" + drift + ") for the pin 6", due[drift + 2], lane.bestBoard(drift));
        }
    }

    private static void bestChangesNothing() {
        PinDeck lane = Expect.after(10, 3);
        lane.touch(9, 2);
        String before = Expect.seen(lane);
        for (int drift = -2; drift <= 2; drift++) {
            lane.bestBoard(drift);
        }
        expect.badArgument("bestBoard(3)", () -> lane.bestBoard(3));
        expect.equal("the states", before, Expect.seen(lane));
        expect.same("undo", 13, lane.undo());
    }

    // ---- promise 18

    private static void slowestBall() {
        for (int wait = 3; wait <= 90; wait++) {
            PinDeck lane = new PinDeck();
            lane.set(0, wait);
            int speed = lane.slowest();
            expect.same("the slowest with setting 0 as " + wait, 0, lane.roll(0, 0, speed, false));
            for (int slower = 1; slower < speed; slower++) {
                expect.same("a slower one with setting 0 as " + wait, PinDeck.NONE, lane.roll(0, 0, slower, false));
            }
        }
    }

    private static void slowestEnds() {
        int[][] due = {{3, 23}, {4, 19}, {17, 6}, {18, 5}, {21, 5}, {22, 4}, {29, 4}, {30, 3}, {44, 3}, {45, 2},
            {89, 2}, {90, 1}};
        PinDeck lane = new PinDeck();
        expect.same("slowest of a new object", 5, lane.slowest());
        for (int[] row : due) {
            lane.set(0, row[0]);
            expect.same("slowest with setting 0 as " + row[0], row[1], lane.slowest());
        }
    }

    private static void slowestChangesNothing() {
        PinDeck lane = Expect.over();
        String before = Expect.seen(lane);
        expect.same("slowest at the end", 5, lane.slowest());
        expect.equal("the states", before, Expect.seen(lane));
        expect.same("undo", 13, lane.undo());
    }

    // ---- promise 19

    private static void goesOnRange() {
        PinDeck lane = new PinDeck();
        expect.same("goesOn(0, 0)", 0, lane.goesOn(0, 0));
        expect.same("goesOn(40, 0)", 0, lane.goesOn(40, 0));
        expect.badArgument("goesOn(-1, 0)", () -> lane.goesOn(-1, 0));
        expect.badArgument("goesOn(41, 0)", () -> lane.goesOn(41, 0));
        expect.badArgument("goesOn(20, -3)", () -> lane.goesOn(20, -3));
        expect.badArgument("goesOn(20, 3)", () -> lane.goesOn(20, 3));
        for (int far : Expect.FAR) {
            expect.badArgument("goesOn(" + far + ", 0)", () -> lane.goesOn(far, 0));
            expect.badArgument("goesOn(20, " + far + ")", () -> lane.goesOn(20, far));
        }
        PinDeck over = Expect.over();
        expect.badArgument("goesOn(41, 0) at the end", () -> over.goesOn(41, 0));
    }

    private static void goesOnLikeRolls() {
        int[][] games = {{}, {4}, {10}, {10, 10}, {4, 6}, {0, 10, 9}, {0, 0, 0, 0, 0, 0, 0, 0, 0, 0, 0, 0, 0, 0, 0, 0,
            0, 0, 10}, {0, 0, 0, 0, 0, 0, 0, 0, 0, 0, 0, 0, 0, 0, 0, 0, 0, 0, 10, 10}, new int[18], new int[19]};
        for (int[] takes : games) {
            PinDeck lane = Expect.after(takes);
            for (int i = 0; i < 15; i++) {
                int board = 13 + i;
                int drift = i % 5 - 2;
                PinDeck rolled = Expect.after(takes);
                while (rolled.about(9) == 0) {
                    rolled.roll(board, drift, 30, false);
                }
                expect.same("goesOn(" + board + ", " + drift + ") behind " + takes.length + " rolls", rolled.about(3),
                        lane.goesOn(board, drift));
            }
        }
    }

    /** The settings of the state hold for the rolls that are left, too. */
    private static void goesOnWithSettings() {
        for (int i = 0; i < 16; i++) {
            PinDeck lane = new PinDeck();
            lane.set(1, i % 4);
            lane.set(2, i / 4);
            int due = lane.goesOn(19, 2);
            while (lane.about(9) == 0) {
                lane.roll(19, 2, 30, false);
            }
            expect.same("goesOn(19, 2) with settings of " + i % 4 + " and " + i / 4, lane.about(3), due);
        }
    }

    private static void goesOnAtTheEnd() {
        expect.same("goesOn at the end of the best game", 300, Expect.allStrikes().goesOn(20, 0));
        expect.same("goesOn at the end of the worst game", 0, Expect.over().goesOn(20, 0));
        PinDeck last = Expect.after(10, 10, 10, 10, 10, 10, 10, 10, 10, 10, 10);
        expect.same("goesOn ahead of the last roll", 290 + 6, last.goesOn(20, 0));
        expect.same("goesOn ahead of the last roll, beside all", 290, last.goesOn(0, 0));
    }

    private static void goesOnNotStopped() {
        PinDeck lane = new PinDeck();
        int due = lane.goesOn(20, 0);
        expect.same("goesOn(20, 0)", 60, due);
        lane.set(0, 3);
        expect.same("goesOn(20, 0) with setting 0 as 3", due, lane.goesOn(20, 0));
        lane.set(0, 90);
        expect.same("goesOn(20, 0) with setting 0 as 90", due, lane.goesOn(20, 0));
    }

    private static void goesOnChangesNothing() {
        PinDeck lane = Expect.after(10, 3);
        lane.touch(9, 2);
        String before = Expect.seen(lane);
        lane.goesOn(20, 0);
        lane.goesOn(14, 2);
        expect.badArgument("goesOn(41, 0)", () -> lane.goesOn(41, 0));
        expect.equal("the states", before, Expect.seen(lane));
        expect.same("undo", 13, lane.undo());
    }

    // ---- promise 20

    private static void dropsMore() {
        for (int grips = 0; grips <= 3; grips++) {
            for (int v = 0; v <= 3; v++) {
                PinDeck lane = new PinDeck();
                lane.set(2, grips);
                lane.touch(5, v);
                expect.same("drops with a leaning of " + v + " and setting 2 as " + grips, v > grips ? 32 : 0,
                        lane.drops());
            }
        }
    }

    private static void dropsAsSet() {
        PinDeck lane = new PinDeck();
        expect.same("drops of a new object", 0, lane.drops());
        for (int k = 0; k < 10; k++) {
            lane.touch(k, 2);
            expect.same("drops with the pin " + k + " leaning", 1 << k, lane.drops());
            lane.touch(k, 0);
        }
        Expect.touchAll(lane, 2);
        expect.same("drops with all leaning", ALL, lane.drops());
    }

    private static void dropsOfTold() {
        PinDeck lane = Expect.aheadOfLast();
        lane.touch(0, 3);
        lane.touch(9, 2);
        expect.same("drops ahead of the roll", 513, lane.drops());
        Expect.beside(lane, false);
        expect.same("drops with the pin 0 not told", 512, lane.drops());
        expect.same("drops with no pins told", 0, Expect.allStrikes().drops());
        PinDeck fallen = Expect.after(9);
        expect.same("drops with fallen pins", 0, fallen.drops());
        fallen.set(2, 0);
        expect.same("drops with fallen pins and setting 2 as 0", 0, fallen.drops());
        expect.same("drops with all fallen", 0, Expect.allDropped().drops());
    }

    private static void dropsChangesNothing() {
        PinDeck lane = Expect.after(3);
        lane.touch(9, 3);
        String before = Expect.seen(lane);
        expect.same("drops", 512, lane.drops());
        expect.equal("the states", before, Expect.seen(lane));
        expect.same("undo", 4, lane.undo());
    }

    private static void testWould() {
        expect.test(16, "`board`: 0 to 40", EdgeWouldTest::wouldBoards);
        expect.test(16, "`drift`: -2 to 2", EdgeWouldTest::wouldDrifts);
        expect.test(16, "Throws `IllegalArgumentException` if an argument is out of range", EdgeWouldTest::wouldWhat);
        expect.test(16, "Tells what a ball that is not stopped would do to the pins as they are",
                EdgeWouldTest::wouldNotStopped);
        expect.test(16, "0: the pins that it would make fall, as a set", EdgeWouldTest::wouldFall);
        expect.test(16, "1: the pins that have not fallen then, and lean, as a set", EdgeWouldTest::wouldLean);
        expect.test(16, "2: the pins that it would take without a foul", EdgeWouldTest::wouldTake);
        expect.test(16, "3: how many of these would not have fallen", EdgeWouldTest::wouldTakeStanding);
        expect.test(16, "and was told as standing ahead of the roll", EdgeWouldTest::wouldOfTold);
        expect.test(16, "would do to the pins as they are, ahead of what the machine does.",
                EdgeWouldTest::wouldAheadOfMachine);
        expect.test(16, "behind the last roll of the game nothing is done", EdgeWouldTest::wouldAtTheEnd);
        expect.test(16, "these and all following methods up to the save slots change nothing",
                EdgeWouldTest::wouldChangesNothing);
    }

    private static void testBestBoardAndSlowest() {
        expect.test(17, "Throws `IllegalArgumentException` if drift is out of range", EdgeWouldTest::bestDrifts);
        expect.test(17, "Returns the board with which a ball of this drift would take the most pins",
                EdgeWouldTest::bestMost);
        expect.test(17, "of several the lowest", EdgeWouldTest::bestLowest);
        expect.test(17, "the most pins, of several the lowest", EdgeWouldTest::bestOfTheSame);
        expect.test(17, "A ball has a board, 0 to 40", EdgeWouldTest::bestOfSixAlone);
        expect.test(17, "these and all following methods up to the save slots change nothing",
                EdgeWouldTest::bestChangesNothing);
        expect.test(18, "Returns the least speed of a ball that is not stopped.", EdgeWouldTest::slowestBall);
        expect.test(18, "how many ticks the machine waits, 3 to 90", EdgeWouldTest::slowestEnds);
        expect.test(18, "these and all following methods up to the save slots change nothing",
                EdgeWouldTest::slowestChangesNothing);
    }

    private static void testGoesOnAndDrops() {
        expect.test(19, "Throws `IllegalArgumentException` if an argument is out of range", EdgeWouldTest::goesOnRange);
        expect.test(19, "if all rolls that are left were with such a ball", EdgeWouldTest::goesOnLikeRolls);
        expect.test(19, "Tells how the game ends.", EdgeWouldTest::goesOnWithSettings);
        expect.test(19, "Returns the points of all frames", EdgeWouldTest::goesOnAtTheEnd);
        expect.test(19, "and neither stopped nor a foul", EdgeWouldTest::goesOnNotStopped);
        expect.test(19, "these and all following methods up to the save slots change nothing",
                EdgeWouldTest::goesOnChangesNothing);
        expect.test(20, "and lean more than grips bear", EdgeWouldTest::dropsMore);
        expect.test(20, "as a set", EdgeWouldTest::dropsAsSet);
        expect.test(20, "Returns the pins that are told as standing", EdgeWouldTest::dropsOfTold);
        expect.test(20, "these and all following methods up to the save slots change nothing",
                EdgeWouldTest::dropsChangesNothing);
    }

    public static void main(String[] args) {
        testWould();
        testBestBoardAndSlowest();
        testGoesOnAndDrops();
        expect.covers(16, 20);
        expect.end();
    }
}
