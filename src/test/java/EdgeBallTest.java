/** The boundary cases of the promise 12 in the terms "pins" and "a ball": a test for each sentence. */
public final class EdgeBallTest {
    private static final Expect expect = new Expect("EdgeBallTest");

    /** The pins behind the last roll of a game, ahead of which some leaned: leaning has a digit for each pin. */
    private static PinDeck ball(String leaning, int board, int drift) {
        PinDeck lane = Expect.aheadOfLast();
        for (int k = 0; k < 10; k++) {
            lane.touch(k, leaning.charAt(k) - '0');
        }
        lane.roll(board, drift, 30, false);
        return lane;
    }

    private static void pins(String leaning, int board, int drift, String due) {
        String what = "behind a ball at " + board + " with the drift " + drift + ", and leanings of " + leaning;
        expect.leanings(what, due, ball(leaning, board, drift));
    }

    private static void pins(int board, int drift, String due) {
        pins("0000000000", board, drift, due);
    }

    // ---- what is refused

    private static void refused(PinDeck lane, int board, int drift, int speed) {
        expect.badArgument("roll(" + board + ", " + drift + ", " + speed + ")",
                () -> lane.roll(board, drift, speed, false));
        expect.badArgument("roll(" + board + ", " + drift + ", " + speed + ") as a foul",
                () -> lane.roll(board, drift, speed, true));
    }

    private static void boards() {
        PinDeck lane = new PinDeck();
        expect.same("a ball at 0", 0, lane.roll(0, 0, 30, false));
        expect.same("a ball at 40", 0, lane.roll(40, 0, 30, false));
        expect.same("its rolls", 2, lane.about(2));
        refused(lane, -1, 0, 30);
        refused(lane, 41, 0, 30);
        refused(lane, Integer.MIN_VALUE, 0, 30);
        refused(lane, Integer.MAX_VALUE, 0, 30);
    }

    private static void drifts() {
        PinDeck lane = new PinDeck();
        expect.same("a drift of -2", 6, lane.roll(20, -2, 30, false));
        expect.same("a drift of 2", 6, new PinDeck().roll(20, 2, 30, false));
        refused(lane, 20, -3, 30);
        refused(lane, 20, 3, 30);
        refused(lane, 20, Integer.MIN_VALUE, 30);
        refused(lane, 20, Integer.MAX_VALUE, 30);
    }

    private static void speeds() {
        PinDeck lane = new PinDeck();
        lane.set(0, 90);
        expect.same("a speed of 1", 0, lane.roll(0, 0, 1, false));
        expect.same("a speed of 30", 0, lane.roll(0, 0, 30, false));
        refused(lane, 20, 0, 0);
        refused(lane, 20, 0, 31);
        refused(lane, 20, 0, -1);
        refused(lane, 20, 0, Integer.MIN_VALUE);
        refused(lane, 20, 0, Integer.MAX_VALUE);
        expect.same("the balls stopped", 0, lane.about(4));
    }

    private static void gameOver() {
        PinDeck lane = Expect.aheadOfLast();
        expect.same("the last roll", 0, lane.roll(0, 0, 30, false));
        expect.badState("a roll behind it", () -> lane.roll(0, 0, 30, false));
        expect.badState("a foul behind it", () -> lane.roll(0, 0, 30, true));
        expect.badState("a ball to be stopped behind it", () -> lane.roll(0, 0, 1, false));
        PinDeck strikes = Expect.allStrikes();
        expect.badState("a roll behind 12 strikes", () -> strikes.roll(20, 0, 30, false));
        lane.begin();
        expect.same("a roll behind begin", 6, lane.roll(20, 0, 30, false));
    }

    private static void bothWrong() {
        PinDeck over = Expect.over();
        refused(over, -1, 0, 30);
        refused(over, 20, 3, 30);
        refused(over, 20, 0, 0);
        expect.badState("a ball in its ranges", () -> over.roll(20, 0, 30, false));
    }

    private static void refusedRoll() {
        PinDeck lane = Expect.after(3);
        int remembered = lane.undo();
        String before = Expect.seen(lane);
        refused(lane, 41, 0, 30);
        refused(lane, 20, 3, 30);
        refused(lane, 20, 0, 31);
        expect.equal("the states", before, Expect.seen(lane));
        expect.same("undo", remembered - 1, lane.undo());
        PinDeck over = Expect.over();
        String end = Expect.seen(over);
        expect.badState("a roll at the end", () -> over.roll(20, 0, 30, true));
        expect.equal("the states at the end", end, Expect.seen(over));
        expect.same("undo at the end", 13, over.undo());
    }

    // ---- the rake

    private static void ticks() {
        for (int speed = 1; speed <= 30; speed++) {
            int whole = 0;
            while ((whole + 1) * speed <= 90) {
                whole++;
            }
            PinDeck lane = new PinDeck();
            for (int wait = 3; wait <= 90; wait++) {
                lane.set(0, wait);
                int due = whole > wait ? PinDeck.NONE : 0;
                expect.same("speed " + speed + " with setting 0 as " + wait, due, lane.roll(0, 0, speed, false));
                lane.undo();
            }
        }
    }

    private static void ticksOfSettingZero() {
        int[][] speeds = {{3, 23, 30}, {18, 5, 5}, {22, 4, 4}, {30, 3, 3}, {45, 2, 2}, {90, 1, 1}};
        for (int[] row : speeds) {
            PinDeck lane = new PinDeck();
            lane.set(0, row[0]);
            for (int speed = row[1]; speed <= row[2]; speed++) {
                expect.same("as many ticks as setting 0, " + row[0], 6, lane.roll(20, 0, speed, false));
                lane.begin();
            }
            if (row[0] > 3) {
                lane.set(0, row[0] - 1);
                expect.same("one tick more than setting 0", PinDeck.NONE, lane.roll(20, 0, row[1], false));
            }
        }
    }

    private static void stopped() {
        PinDeck lane = Expect.after(10, 3);
        lane.touch(9, 3);
        String before = Expect.seen(lane).replaceFirst("^(\\d+ \\d+ \\d+ \\d+) 0 ", "$1 1 ");
        expect.same("a ball that is stopped", PinDeck.NONE, lane.roll(20, 0, 4, false));
        expect.equal("the states", before, Expect.seen(lane));
    }

    private static void stoppedFoul() {
        PinDeck lane = new PinDeck();
        expect.same("a foul that is stopped", PinDeck.NONE, lane.roll(20, 0, 4, true));
        expect.same("the fouls", 0, lane.about(6));
        expect.same("the balls stopped", 1, lane.about(4));
        expect.same("the rolls", 0, lane.about(2));
    }

    // ---- the rows

    private static PinDeck only(int... left) {
        PinDeck lane = Expect.only(left);
        expect.same("the pins taken ahead", 10 - left.length, lane.taken(18));
        return lane;
    }

    private static void placeInEachRow() {
        int[] rows = {0, 1, 1, 2, 2, 2, 3, 3, 3, 3};
        int[] boards = {20, 17, 23, 14, 20, 26, 11, 17, 23, 29};
        for (int k = 0; k < 10; k++) {
            PinDeck lane = only(k);
            for (int board = 0; board <= 40; board++) {
                for (int drift = -2; drift <= 2; drift++) {
                    int off = boards[k] - (board + drift * rows[k]);
                    int due = off >= -3 && off <= 3 ? 1 : 0;
                    expect.same("the pin " + k + " alone, a ball at " + board + " with the drift " + drift, due,
                            lane.roll(board, drift, 30, false));
                    lane.undo();
                }
            }
        }
    }

    private static void atMostThree() {
        int[] leanings = {0, 1, 4, 4, 4, 4, 4, 4, 4, 1, 0};
        for (int i = 0; i < leanings.length; i++) {
            int board = 15 + i;
            expect.same("the pin 0 behind a ball at " + board, leanings[i],
                    ball("0000000000", board, 0).pin(0, 0));
        }
    }

    /** A pin 1 or 2 that leans by 3 falls where it is pushed; otherwise the ball makes it go to the other side. */
    private static void sidesOfHits() {
        for (int board = 17; board <= 19; board++) {
            expect.same("the pin 2, pushed from " + board, 2, ball("0000000000", board, 0).pin(2, 0));
        }
        for (int board = 21; board <= 23; board++) {
            expect.same("the pin 1, pushed from " + board, 2, ball("0000000000", board, 0).pin(1, 0));
        }
        pins("0300000000", 17, 0, "4424202400");
        pins("0030000000", 23, 0, "4240240042");
        pins(20, -2, "4424403420");
        pins(20, 2, "4240440243");
    }

    /** The ball hits the pin 0 in its middle, so it is not pushed, and is at 19 for both pins of the row 1. */
    private static void onePlaceInRow() {
        PinDeck lane = ball("0000000000", 20, -1);
        expect.same("the pin 1", 4, lane.pin(1, 0));
        expect.same("the pin 2, pushed and grazed", 3, lane.pin(2, 0));
        expect.same("its shift", 1, lane.pin(2, 1));
        pins(20, -1, "4432400420");
    }

    private static void pushedBall() {
        pins(17, 0, "4424202400");
        pins(19, 0, "4422400420");
        pins(20, 0, "4442420440");
        pins(21, 0, "4240420240");
        pins(23, 0, "4240240042");
    }

    private static void grazed() {
        pins(16, 0, "1404202400");
        pins(24, 0, "1040240042");
        int[] shifts = {0, 1, 0, 0, 0, 0, 0, 0, 0, -1, 0};
        for (int i = 0; i < shifts.length; i++) {
            int board = 15 + i;
            expect.same("the shift of 0 behind a ball at " + board, shifts[i],
                    ball("0000000000", board, 0).pin(0, 1));
        }
    }

    /** A rack sees no more than two rolls: the ends of the range are reached, and not gone beyond. */
    private static void shiftEnds() {
        int[][] balls = {{16, 17, 2}, {24, 23, -2}};
        for (int[] row : balls) {
            PinDeck lane = Expect.aheadOfLastFrame();
            lane.roll(row[0], 0, 30, false);
            expect.same("the shift behind one graze", row[2] / 2, lane.pin(0, 1));
            lane.roll(row[1], 0, 30, false);
            expect.same("the shift behind two grazes", row[2], lane.pin(0, 1));
            expect.same("the leaning behind two grazes", 1, lane.pin(0, 0));
        }
    }

    private static void grazedPinsFall() {
        pins("2000000000", 16, 0, "3404202400");
        pins("2000000000", 24, 0, "3040240042");
        pins("3000000000", 16, 0, "4424202400");
        pins("3000000000", 24, 0, "4240240042");
    }

    private static void shiftOfGrazedPinsThatFall() {
        PinDeck right = ball("3000000000", 16, 0);
        expect.same("the pin 0 has fallen", 4, right.pin(0, 0));
        expect.same("its shift", 1, right.pin(0, 1));
        PinDeck left = ball("3000000000", 24, 0);
        expect.same("the pin 0 has fallen to the left", 4, left.pin(0, 0));
        expect.same("its shift then", -1, left.pin(0, 1));
    }

    // ---- pins that push

    private static void pushedByOthers() {
        pins("0200000000", 20, 2, "4442440243");
        pins("0020000000", 20, -2, "4444423420");
    }

    private static void pushedByThisBallAlone() {
        PinDeck lane = Expect.aheadOfLastFrame();
        lane.touch(1, 3);
        expect.same("the pin 1 is taken ahead", 1, Expect.beside(lane, false));
        lane.roll(20, 2, 30, false);
        expect.leanings("the pin 1 has fallen ahead of the ball", "4440440243", lane);
    }

    private static void pushedByTwo() {
        pins("0000000000", 20, -2, "4424403420");
        pins("0010000000", 20, -2, "4434403420");
        pins("0020000000", 20, -2, "4444423420");
        pins("0030000000", 20, -2, "4444423420");
    }

    private static void sidesOfPushes() {
        pins("0202000000", 23, 2, "4444242024");
        pins("0020020000", 17, -2, "4444244202");
    }

    private static void outermostPins() {
        pins("0202002000", 23, 2, "4444244024");
        pins("0020020002", 17, -2, "4444244204");
    }

    private static void bothSides() {
        PinDeck right = only(4, 7, 8);
        right.roll(16, 2, 30, false);
        expect.leanings("the pin 4 pushes to both sides", "4444444244", right);
        PinDeck left = only(4, 7, 8);
        left.roll(24, -2, 30, false);
        expect.leanings("the pin 4 pushes to both sides", "4444444424", left);
    }

    private static void nothingBehindLastRow() {
        PinDeck lane = Expect.lastFrame(10, 10);
        Expect.touchAll(lane, 3);
        expect.same("all ten are taken", 10, lane.roll(20, 0, 30, false));
        expect.leanings("all fall", "4444444444", lane);
    }

    private static void nothingLeft() {
        PinDeck lane = Expect.allDropped();
        expect.same("the pins that have not fallen", 0, lane.about(8));
        expect.same("a roll with no pins", 0, lane.roll(20, 0, 30, false));
    }

    public static void main(String[] args) {
        expect.test(12, "- `board`: 0 to 40", EdgeBallTest::boards);
        expect.test(12, "- `drift`: -2 to 2", EdgeBallTest::drifts);
        expect.test(12, "- `speed`: 1 to 30", EdgeBallTest::speeds);
        expect.test(12, "Throws `IllegalStateException` if the game is over", EdgeBallTest::gameOver);
        expect.test(12, "If several exceptions apply to a call, the one that its description names first is thrown.",
                EdgeBallTest::bothWrong);
        expect.test(12, "A call that throws an exception changes nothing.", EdgeBallTest::refusedRoll);
        expect.test(12, "It takes 90 / speed ticks, rounded down.", EdgeBallTest::ticks);
        expect.test(12, "If these are more than setting 0, the rake is down when it comes, and it is stopped",
                EdgeBallTest::ticksOfSettingZero);
        expect.test(12, "and it is stopped: nothing else happens, and it counts as no roll.", EdgeBallTest::stopped);
        expect.test(12, "`foul`: whether it is a foul (of a ball that is stopped it does not matter)",
                EdgeBallTest::stoppedFoul);
        expect.test(12, "its board, and its drift times the row", EdgeBallTest::placeInEachRow);
        expect.test(12, "If x and p differ by at most 3, the pin falls", EdgeBallTest::atMostThree);
        expect.test(12, "it goes to the right if x is greater than p, to the left if it is less, to both sides if they "
                + "are the same.", EdgeBallTest::sidesOfHits);
        expect.test(12, "In a row it is at the place p, for all pins of the row", EdgeBallTest::onePlaceInRow);
        expect.test(12, "The ball is pushed by 1 less if x is greater, by 1 more if it is less, from the next row on.",
                EdgeBallTest::pushedBall);
        expect.test(12, "If they differ by 4, the pin leans by 1 more, and its shift becomes 1 more if x is greater "
                + "than p, otherwise 1 less", EdgeBallTest::grazed);
        expect.test(12, "(not beyond -2 and 2)", EdgeBallTest::shiftEnds);
        expect.test(12, "If it would lean by more than 3, it falls instead, and goes to the right if x is greater, "
                + "otherwise to the left", EdgeBallTest::grazedPinsFall);
        expect.test(12, "the shift becomes another one all the same", EdgeBallTest::shiftOfGrazedPinsThatFall);
        expect.test(12, "Then the pins of the row that fell by this ball (also by others ahead of them)",
                EdgeBallTest::pushedByOthers);
        expect.test(12, "push those behind them that have not fallen", EdgeBallTest::pushedByThisBallAlone);
        expect.test(12, "A pin that is pushed leans by 2 more; if it would lean by more than 3, it falls instead",
                EdgeBallTest::pushedByTwo);
        expect.test(12, "and goes to the side to which it was pushed", EdgeBallTest::sidesOfPushes);
        expect.test(12, "to the left that with the index i, to the right that with the index i + 1",
                EdgeBallTest::outermostPins);
        expect.test(12, "one that goes to both sides first the left one, then the right one",
                EdgeBallTest::bothSides);
        expect.test(12, "Behind a pin with the index i there are two pins of the next row (not of the row 3)",
                EdgeBallTest::nothingBehindLastRow);
        expect.test(12, "The pins of the row that have not fallen are gone through", EdgeBallTest::nothingLeft);
        expect.covers(12, 12);
        expect.end();
    }
}
