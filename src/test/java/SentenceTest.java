import java.util.Random;

/** The promises 1 to 15: the sentences that name no boundary case and that no other test quotes, a test for each. */
public final class SentenceTest {
    private static final Expect expect = new Expect("SentenceTest");
    private static final int[] BOARDS = {20, 17, 23, 14, 20, 26, 11, 17, 23, 29};
    private static final int MOST_REMEMBERED = 14;
    /** An object is used for at most 512 calls. */
    private static final int CALLS = 512;

    // ---- promises 2 and 5

    private static void appends() {
        PinDeck lane = new PinDeck();
        String text = "P40s30f";
        int[] errors = {PinDeck.NONE, 2, 3, 4, 5, PinDeck.NONE, PinDeck.NONE};
        for (int i = 0; i < text.length(); i++) {
            lane.append(text.charAt(i));
            expect.same("errorPosition of " + text.substring(0, i + 1), errors[i], lane.errorPosition());
        }
        lane.append('4');
        lane.append('1');
        expect.same("errorPosition of " + text + "41", 8, lane.errorPosition());
    }

    private static void wrongCodes() {
        PinDeck lane = new PinDeck();
        for (int c : new int[] {-1, 256, 1000, -256, Integer.MIN_VALUE, Integer.MAX_VALUE}) {
            expect.badArgument("append(" + c + ")", () -> lane.append(c));
        }
        expect.same("the length", 0, lane.clearText());
    }

    /** All 120 characters are read: the last one is the f of a foul, or none that is allowed. */
    private static void buffer() {
        String rolls = "P" + "20m04".repeat(19) + "20m04f".repeat(3) + "20m30";
        PinDeck lane = new PinDeck();
        Expect.type(lane, rolls + "f");
        expect.badState("append to 120 characters", () -> lane.append('f'));
        expect.same("load of 120 characters", 0, lane.load());
        expect.same("the balls stopped", 22, lane.about(4));
        expect.same("the fouls", 1, lane.about(6));
        expect.same("its length", 120, lane.clearText());
        Expect.type(lane, rolls + "x");
        expect.same("errorPosition of 120 characters", 119, lane.errorPosition());
    }

    private static void letters() {
        String[] due = {"4424403420", "4432400420", "4442420440", "4340420240", "4240440243"};
        for (int i = 0; i < 5; i++) {
            String ball = "20" + "lkmrs".charAt(i) + "30";
            PinDeck rolled = Expect.aheadOfLast();
            rolled.roll(20, i - 2, 30, false);
            expect.leanings("behind a roll with the drift " + (i - 2), due[i], rolled);
            expect.leanings("behind " + ball, due[i], Expect.loaded("P" + "00m30".repeat(19) + ball));
        }
    }

    // ---- promises 6 to 10

    private static void rows() {
        PinDeck lane = new PinDeck();
        int[][] rows = {{0}, {1, 2}, {3, 4, 5}, {6, 7, 8, 9}};
        for (int row = 0; row < 4; row++) {
            for (int index = 0; index < rows[row].length; index++) {
                expect.same("the board of the pin " + index + " of the row " + row, 20 - 3 * row + 6 * index,
                        lane.pin(rows[row][index], 2));
            }
        }
        expect.outOfBounds("an eleventh pin", () -> lane.pin(10, 2));
    }

    /** Does random rolls and touches, so that pins lean, fall and drop. */
    private static void shake(PinDeck lane, Random random) {
        if (lane.about(9) == 1) {
            lane.begin();
        }
        int k = random.nextInt(10);
        if (lane.pin(k, 0) < 4) {
            lane.touch(k, random.nextInt(4));
        }
        lane.roll(random.nextInt(41), random.nextInt(5) - 2, 1 + random.nextInt(30), random.nextInt(9) == 0);
    }

    private static void leansOrHasFallen() {
        for (int seed = 0; seed < 300; seed++) {
            Random random = new Random(seed);
            PinDeck lane = new PinDeck();
            for (int i = 0; i < 1 + seed % 40; i++) {
                shake(lane, random);
            }
            int up = 0;
            for (int k = 0; k < 10; k++) {
                int pin = k;
                int leaning = lane.pin(k, 0);
                expect.holds("the leaning of " + k + " is 0 to 4", leaning >= 0 && leaning <= 4);
                if (leaning == 4) {
                    expect.badState("touch of the fallen pin " + k, () -> lane.touch(pin, 0));
                } else {
                    expect.same("touch of the pin " + k, leaning, lane.touch(k, 0));
                    up++;
                }
            }
            expect.same("not fallen", up, lane.about(8));
        }
    }

    /** Pins that have fallen and pins that have dropped have a shift, too. */
    private static void shiftOfAllPins() {
        PinDeck lane = new PinDeck();
        lane.touch(0, 1);
        lane.roll(16, 0, 30, false);
        expect.same("the pin 0 has dropped, and so have two that it pushed", 3, lane.about(5));
        expect.same("its leaning", 4, lane.pin(0, 0));
        expect.same("its shift", 1, lane.pin(0, 1));
        PinDeck hit = Expect.aheadOfLastFrame();
        hit.roll(24, 0, 30, false);
        expect.same("the shift of a pin that leans", -1, hit.pin(0, 1));
        hit.roll(20, 0, 30, false);
        expect.same("its leaning behind another ball", 4, hit.pin(0, 0));
        expect.same("its shift then", -1, hit.pin(0, 1));
        expect.same("the shift of a pin that no ball grazed", 0, hit.pin(3, 1));
    }

    private static void boardsOfAllPins() {
        for (int seed = 0; seed < 300; seed++) {
            Random random = new Random(seed);
            PinDeck lane = new PinDeck();
            for (int i = 0; i < 1 + seed % 40; i++) {
                shake(lane, random);
            }
            for (int k = 0; k < 10; k++) {
                expect.same("the board of " + k, BOARDS[k] + lane.pin(k, 1), lane.pin(k, 2));
            }
        }
        PinDeck lane = new PinDeck();
        lane.touch(0, 1);
        lane.roll(24, 0, 30, false);
        expect.same("the board of a pin that has dropped", 19, lane.pin(0, 2));
    }

    private static final int[] GAME = {10, 9, 1, 0, 10, 5, 4, 10, 10, 0, 0, 8, 2, 10, 10, 0, 10};

    private static void pointsOfFrames() {
        PinDeck lane = Expect.after(GAME);
        int[] due = {20, 10, 15, 9, 20, 10, 0, 20, 20, 20};
        int sum = 0;
        for (int f = 0; f < 10; f++) {
            expect.same("the points of the frame " + f, due[f], lane.frame(f, 1));
            sum += due[f];
        }
        expect.same("the points of all frames", sum, lane.about(3));
    }

    private static void marksOfFrames() {
        PinDeck lane = Expect.after(GAME);
        int[] due = {1, 2, 2, 0, 1, 1, 0, 2, 1, 1};
        for (int f = 0; f < 10; f++) {
            expect.same("the mark of the frame " + f, due[f], lane.frame(f, 2));
        }
        expect.same("the mark of a spare in the frame 9", 2, Expect.lastFrame(0, 10, 10).frame(9, 2));
        expect.same("the mark of a strike, 4 and 6 in the frame 9", 1, Expect.lastFrame(10, 4, 6).frame(9, 2));
    }

    private static void takenIsAnswered() {
        for (int seed = 0; seed < 100; seed++) {
            Random random = new Random(seed);
            PinDeck lane = new PinDeck();
            lane.set(1, seed % 4);
            int rolls = 0;
            while (lane.about(9) == 0) {
                int takes = lane.roll(12 + random.nextInt(17), random.nextInt(5) - 2, 4 + random.nextInt(27),
                        random.nextInt(9) == 0);
                if (takes != PinDeck.NONE) {
                    expect.same("taken(" + rolls + ")", takes, lane.taken(rolls));
                    rolls++;
                }
            }
            expect.same("the rolls", rolls, lane.about(2));
        }
    }

    private static void settingsApart() {
        PinDeck lane = new PinDeck();
        int[] due = {77, 3, 0};
        for (int what = 0; what < 3; what++) {
            lane.set(what, due[what]);
        }
        for (int what = 0; what < 3; what++) {
            expect.same("setting(" + what + ")", due[what], lane.setting(what));
        }
    }

    private static void refusedAbout() {
        expect.changesNothing("about(10)", lane -> lane.about(10));
    }

    private static void refusedPin() {
        expect.changesNothing("pin(10, 0)", lane -> lane.pin(10, 0));
        expect.changesNothing("pin(0, 4)", lane -> lane.pin(0, 4));
    }

    private static void refusedFrame() {
        expect.changesNothing("frame(10, 0)", lane -> lane.frame(10, 0));
        expect.changesNothing("frame(0, 3)", lane -> lane.frame(0, 3));
    }

    private static void refusedTaken() {
        expect.changesNothing("taken(2)", lane -> lane.taken(2));
    }

    private static void refusedSetting() {
        expect.changesNothing("setting(3)", lane -> lane.setting(3));
    }

    private static void outOfBounds() {
        PinDeck lane = Expect.after(3);
        expect.outOfBounds("a pin that does not exist", () -> lane.pin(10, 0));
        expect.outOfBounds("a pin to touch that does not exist", () -> lane.touch(10, 0));
        expect.outOfBounds("a frame that does not exist", () -> lane.frame(10, 0));
        expect.outOfBounds("a roll that does not exist", () -> lane.taken(1));
        expect.outOfBounds("a save slot that is not 0 or 1", () -> lane.save(2));
        expect.outOfBounds("a save slot to restore that is not 0 or 1", () -> lane.restore(2));
    }

    // ---- promise 12

    private static void allBalls() {
        PinDeck lane = new PinDeck();
        int calls = 0;
        for (int i = 0; i < 41 * 5 * 30; i++) {
            int board = i % 41;
            int drift = i / 41 % 5 - 2;
            int speed = 1 + i / 205;
            if (calls + 2 > CALLS) {
                lane = new PinDeck();
                calls = 0;
            }
            int got = lane.roll(board, drift, speed, false);
            int undone = lane.undo();
            calls += 2;
            expect.holds("roll(" + board + ", " + drift + ", " + speed + ") answered " + got,
                    undone == 0 && (speed < 5 ? got == PinDeck.NONE : got >= 0 && got <= 10));
        }
    }

    private static void wrongBalls() {
        PinDeck lane = new PinDeck();
        int[][] wrong = {{-1, 0, 30}, {41, 0, 30}, {20, -3, 30}, {20, 3, 30}, {20, 0, 0}, {20, 0, 31}, {-1, -3, 0},
            {41, 3, 31}, {-1, 0, 31}, {41, 0, 0}, {20, 3, 0}, {20, -3, 31}, {41, -3, 30}, {100, 0, 15}, {20, 100, 15},
            {20, 0, 100}};
        for (int[] ball : wrong) {
            expect.badArgument("roll(" + ball[0] + ", " + ball[1] + ", " + ball[2] + ")",
                    () -> lane.roll(ball[0], ball[1], ball[2], false));
        }
    }

    /**
     * The pin 0 falls to the left and pushes the pin 1, that one the pin 3, and that one the pin 6; the ball meets the
     * pins 2, 5 and 8, of which the first and the second push the pins 4 and 9.
     */
    private static void rowByRow() {
        PinDeck lane = Expect.aheadOfLast();
        lane.touch(0, 3);
        for (int k : new int[] {1, 3, 6}) {
            lane.touch(k, 2);
        }
        lane.roll(24, 0, 30, false);
        expect.leanings("behind a ball at 24", "4444244042", lane);
    }

    /** The pins 0 and 2 push the ball: in the row 2 it is at 21, and not at 22 or 23, where it would meet the pin 5. */
    private static void pushesTogether() {
        PinDeck lane = Expect.only(0, 2, 5);
        expect.same("a ball at 19 with the drift 2", 2, lane.roll(19, 2, 30, false));
        expect.same("the leaning of 5, which the pin 2 pushes", 2, lane.pin(5, 0));
        expect.same("its shift", 0, lane.pin(5, 1));
        PinDeck left = Expect.only(0, 1, 3);
        expect.same("a ball at 21 with the drift -2", 2, left.roll(21, -2, 30, false));
        expect.same("the leaning of 3, which the pin 1 pushes", 2, left.pin(3, 0));
        expect.same("its shift", 0, left.pin(3, 1));
    }

    /** A ball at 16 has made the board of the pin 0 21: what it meets there is another pin than one at 20. */
    private static void boardThatShifted() {
        int[][] due = {{17, 1}, {18, 4}, {24, 4}, {25, 1}};
        for (int[] row : due) {
            PinDeck lane = Expect.aheadOfLastFrame();
            lane.roll(16, 0, 30, false);
            expect.same("the board of the pin 0", 21, lane.pin(0, 2));
            lane.roll(row[0], 0, 30, false);
            expect.same("the leaning of the pin 0 behind a ball at " + row[0], row[1], lane.pin(0, 0));
        }
    }

    /** Of three pins, the first one is hit beside its middle: it pushes one behind it, and the ball meets the other. */
    private static void pushesOfHits() {
        int first = 0;
        for (int row = 0; row < 3; row++) {
            for (int k = first; k <= first + row; k++) {
                for (int off = 1; off <= 3; off++) {
                    int left = k + row + 1;
                    PinDeck greater = Expect.only(k, left, left + 1);
                    greater.roll(BOARDS[k] + off, 0, 30, false);
                    expect.same("the pin to the left behind " + k, 2, greater.pin(left, 0));
                    expect.same("the pin to the right behind " + k, 4, greater.pin(left + 1, 0));
                    PinDeck less = Expect.only(k, left, left + 1);
                    less.roll(BOARDS[k] - off, 0, 30, false);
                    expect.same("the pin to the left behind " + k + " then", 4, less.pin(left, 0));
                    expect.same("the pin to the right behind " + k + " then", 2, less.pin(left + 1, 0));
                }
            }
            first += row + 1;
        }
    }

    private static void toldInNewRacks() {
        PinDeck begun = Expect.after(10, 5);
        begun.begin();
        PinDeck[] lanes = {new PinDeck(), Expect.after(10), Expect.after(3, 4), Expect.after(9, 1), begun,
            Expect.lastFrame(10), Expect.lastFrame(10, 10), Expect.lastFrame(9, 1)};
        for (PinDeck lane : lanes) {
            for (int k = 0; k < 10; k++) {
                expect.same("told of " + k + " behind " + lane.about(2) + " rolls", 1, lane.pin(k, 3));
            }
            expect.same("a roll that takes all of a new rack", 10, Expect.take(lane, 10));
        }
    }

    /** The grips lift the pins as the roll ends: what is touched or set then matters to the next roll alone. */
    private static void rightBehindRolls() {
        PinDeck lane = new PinDeck();
        lane.touch(8, 1);
        lane.touch(9, 2);
        Expect.beside(lane, false);
        expect.leanings("right behind the first roll", "0000000004", lane);
        expect.same("dropped right behind it", 1, lane.about(5));
        lane.set(2, 0);
        lane.touch(0, 3);
        lane.roll(20, 0, 1, false);
        expect.leanings("ahead of the second roll", "3000000004", lane);
        expect.same("dropped ahead of it", 1, lane.about(5));
        lane.roll(16, 0, 30, false);
        expect.leanings("right behind the frame", "0000000000", lane);
        expect.same("the shift right behind the frame", 0, lane.pin(0, 1));
        expect.same("dropped right behind the frame", 1, lane.about(5));
        expect.same("the next frame", 1, lane.about(0));
    }

    // ---- promises 13 to 15

    private static void allTouches() {
        PinDeck lane = new PinDeck();
        for (int k = 0; k < 10; k++) {
            for (int v = 0; v < 4; v++) {
                lane.touch(k, v);
                expect.same("the leaning behind touch(" + k + ", " + v + ")", v, lane.pin(k, 0));
            }
        }
    }

    private static void allValues() {
        int[][] ranges = {{3, 90}, {0, 3}, {0, 3}};
        for (int what = 0; what < 3; what++) {
            PinDeck lane = new PinDeck();
            for (int v = ranges[what][0]; v <= ranges[what][1]; v++) {
                lane.set(what, v);
                expect.same("the setting behind set(" + what + ", " + v + ")", v, lane.setting(what));
            }
        }
    }

    private static void statesStillRemembered() {
        for (int seed = 0; seed < 50; seed++) {
            Random random = new Random(seed);
            PinDeck lane = new PinDeck();
            int remembered = 0;
            for (int i = 0; i < 300; i++) {
                if (remembered > 0 && random.nextInt(5) < 2) {
                    remembered--;
                    expect.same("undo", remembered, lane.undo());
                } else {
                    remembered = Math.min(MOST_REMEMBERED, remembered + 1);
                    lane.touch(random.nextInt(10), random.nextInt(4));
                }
            }
        }
    }

    private static void changesUndone() {
        PinDeck lane = Expect.after(10, 3);
        String before = Expect.seen(lane);
        lane.begin();
        lane.undo();
        expect.equal("the states behind begin and undo", before, Expect.seen(lane));
        lane.roll(20, 0, 30, false);
        lane.undo();
        expect.equal("the states behind roll and undo", before, Expect.seen(lane));
        lane.touch(9, 2);
        lane.undo();
        expect.equal("the states behind touch and undo", before, Expect.seen(lane));
        lane.set(1, 0);
        lane.undo();
        expect.equal("the states behind set and undo", before, Expect.seen(lane));
    }

    private static void testTextAndViews() {
        expect.test(2, "Appends a character to the text buffer.", SentenceTest::appends);
        expect.test(2, "Throws `IllegalArgumentException` if c is out of range", SentenceTest::wrongCodes);
        expect.test(2, "The object has a text buffer of at most 120 characters.", SentenceTest::buffer);
        expect.test(5, "one of the letters l, k, m, r, s for the drift (-2, -1, 0, 1, 2)", SentenceTest::letters);
        expect.test(7, "There are 10 pins, numbered from 0, in 4 rows, 0 to 3: the pin 0 in the row 0, 1 and 2 in the "
                + "row 1, 3 to 5 in the row 2, 6 to 9 in the row 3, each row from left to right, its pins with the "
                + "indices 0, 1, and so on.", SentenceTest::rows);
        expect.test(7, "It leans by 0 to 3, or has fallen.", SentenceTest::leansOrHasFallen);
        expect.test(7, "1: its shift", SentenceTest::shiftOfAllPins);
        expect.test(7, "2: its board", SentenceTest::boardsOfAllPins);
        expect.test(8, "1: its points", SentenceTest::pointsOfFrames);
        expect.test(8, "2: 1 if it has a strike, 2 if it has a spare, otherwise 0 (of the frame 9 by its first two "
                + "rolls)", SentenceTest::marksOfFrames);
        expect.test(9, "Returns the pins that it took.", SentenceTest::takenIsAnswered);
        expect.test(10, "Returns a setting. - `what`: 0 to 2", SentenceTest::settingsApart);
    }

    private static void testExceptions() {
        expect.test(6, "A call that throws an exception changes nothing.", SentenceTest::refusedAbout);
        expect.test(7, "A call that throws an exception changes nothing.", SentenceTest::refusedPin);
        expect.test(8, "A call that throws an exception changes nothing.", SentenceTest::refusedFrame);
        expect.test(9, "A call that throws an exception changes nothing.", SentenceTest::refusedTaken);
        expect.test(10, "A call that throws an exception changes nothing.", SentenceTest::refusedSetting);
        expect.test(9, "IndexOutOfBoundsException means that a pin, a frame or a roll does not exist, or that a save "
                + "slot is not 0 or 1.", SentenceTest::outOfBounds);
    }

    private static void testActions() {
        expect.test(12, "A ball has a board, 0 to 40, a drift, -2 to 2, and a speed, 1 to 30.",
                SentenceTest::allBalls);
        expect.test(12, "Throws `IllegalArgumentException` if an argument is out of range",
                SentenceTest::wrongBalls);
        expect.test(12, "Otherwise it goes through the rows, from 0 to 3.", SentenceTest::rowByRow);
        expect.test(12, "its board, and its drift times the row, and what it was pushed so far, together.",
                SentenceTest::pushesTogether);
        expect.test(12, "with x, the board of a pin", SentenceTest::boardThatShifted);
        expect.test(12, "a pin that goes to the left the one to the left, one that goes to the right the one to the "
                + "right", SentenceTest::pushesOfHits);
        expect.test(12, "and was told as standing ahead of the roll (in a new rack all are).",
                SentenceTest::toldInNewRacks);
        expect.test(12, "(All this is done right behind the roll ahead of it", SentenceTest::rightBehindRolls);
        expect.test(13, "- `v`: 0 to 3", SentenceTest::allTouches);
        expect.test(14, "- `what`: 0 to 2 - `v`: the new value, in its range", SentenceTest::allValues);
        expect.test(15, "Returns how many states are still remembered.", SentenceTest::statesStillRemembered);
        expect.test(15, "Changes can be undone.", SentenceTest::changesUndone);
    }

    public static void main(String[] args) {
        testTextAndViews();
        testExceptions();
        testActions();
        expect.end();
    }
}
