/** The boundary cases of the promises 2 to 5, append, clearText, errorPosition and load: a test for each sentence. */
public final class EdgeTextTest {
    private static final Expect expect = new Expect("EdgeTextTest");
    private static final int MOST = 120;
    private static final String DIGITS = "0123456789";
    /** A game of 120 characters: 23 rolls, of which three are behind the end. */
    private static final String FULL = "P" + "00m30".repeat(19) + "00m30f".repeat(4);
    /** Two balls that make a spare with the settings of a new object. */
    private static final String SPARE = "28k3020l30";

    private static PinDeck with(String text) {
        PinDeck lane = new PinDeck();
        Expect.type(lane, text);
        return lane;
    }

    // ---- promise 2

    private static void codes() {
        PinDeck lane = new PinDeck();
        expect.same("append(0)", 1, lane.append(0));
        expect.same("append(255)", 2, lane.append(255));
        int[] wrong = {-1, 256, Integer.MIN_VALUE, Integer.MAX_VALUE, 'P' + 256, 'P' + 65536};
        for (int c : wrong) {
            expect.badArgument("append(" + c + ")", () -> lane.append(c));
        }
    }

    private static void newLength() {
        PinDeck lane = new PinDeck();
        for (int length = 1; length <= MOST; length++) {
            expect.same("append as number " + length, length, lane.append(length));
        }
    }

    private static void fullText() {
        PinDeck lane = with(FULL.substring(1));
        expect.same("append to 119 characters", MOST, lane.append('x'));
        expect.badState("append to 120 characters", () -> lane.append('x'));
        expect.badState("append to them again", () -> lane.append(0));
        lane.clearText();
        expect.same("append behind clearText", 1, lane.append('x'));
    }

    private static void wrongCodeToFullText() {
        PinDeck lane = with(FULL);
        expect.badArgument("append(256) to 120 characters", () -> lane.append(256));
        expect.badArgument("append(-1) to 120 characters", () -> lane.append(-1));
        expect.badState("append(255) to 120 characters", () -> lane.append(255));
    }

    private static void refusedAppend() {
        PinDeck lane = with("P");
        expect.badArgument("append(256)", () -> lane.append(256));
        expect.same("a game still", PinDeck.NONE, lane.errorPosition());
        expect.same("the length still", 2, lane.append('2'));
        PinDeck full = with(FULL);
        expect.badState("append to 120 characters", () -> full.append('x'));
        expect.same("the full game still", PinDeck.NONE, full.errorPosition());
        expect.same("the full length still", MOST, full.clearText());
    }

    private static void appendIsNoAction() {
        PinDeck lane = with("P");
        expect.badState("undo behind append", lane::undo);
        lane.begin();
        lane.append('2');
        expect.same("undo behind begin and append", 0, lane.undo());
        expect.same("the text behind undo", 2, lane.clearText());
    }

    // ---- promise 3

    private static void previousLength() {
        PinDeck lane = new PinDeck();
        expect.same("clearText of a new object", 0, lane.clearText());
        expect.same("clearText of no text again", 0, lane.clearText());
        expect.same("clearText of one character", 1, with("P").clearText());
        expect.same("clearText of 119 characters", MOST - 1, with(FULL.substring(1)).clearText());
        expect.same("clearText of 120 characters", MOST, with(FULL).clearText());
    }

    private static void emptied() {
        PinDeck lane = with(FULL);
        lane.clearText();
        expect.same("clearText again", 0, lane.clearText());
        expect.same("errorPosition of the empty text", 0, lane.errorPosition());
        expect.same("the first character", 1, lane.append('P'));
        expect.same("a game without rolls", PinDeck.NONE, lane.errorPosition());
        expect.same("the second character", 2, lane.append('4'));
        expect.same("the characters that were there are gone", 2, lane.errorPosition());
        for (int length = 3; length <= MOST; length++) {
            expect.same("character number " + length, length, lane.append('0'));
        }
    }

    private static void clearTextIsNoAction() {
        PinDeck lane = with("P");
        String before = Expect.seen(lane);
        lane.clearText();
        expect.badState("undo behind clearText", lane::undo);
        expect.equal("the states", before, Expect.seen(lane));
    }

    // ---- promise 4

    /** Each character from 0 to 255 behind this text: some go on, some make a game, no others are allowed. */
    private static void place(String text, String goOn, String games) {
        for (int c = 0; c < 256; c++) {
            PinDeck lane = with(text);
            int length = lane.append(c);
            int due = games.indexOf(c) >= 0 ? PinDeck.NONE : goOn.indexOf(c) >= 0 ? length : text.length();
            expect.same("errorPosition of " + text + " and the character " + c, due, lane.errorPosition());
        }
    }

    private static void error(String text, int due) {
        expect.same("errorPosition of " + text, due, with(text).errorPosition());
    }

    private static void letterP() {
        place("", "", "P");
        error("PP", 1);
        error("20m30", 0);
    }

    private static void numberOfRolls() {
        for (int rolls = 0; rolls <= 23; rolls++) {
            error("P" + "20m30".repeat(rolls), PinDeck.NONE);
        }
        for (int rolls = 1; rolls <= 19; rolls++) {
            error("P" + "20m30f".repeat(rolls), PinDeck.NONE);
        }
    }

    private static void boards() {
        place("P", "01234", "");
        for (char first = '0'; first <= '3'; first++) {
            place("P" + first, DIGITS, "");
        }
        place("P4", "0", "");
    }

    private static void boardsOfLaterRolls() {
        place("P20m30f", "01234", "");
        place("P20m300", DIGITS, "");
        place("P20m303", DIGITS, "");
        place("P20m304", "0", "");
        place("P20m30f4", "0", "");
    }

    private static void drifts() {
        place("P00", "lkmrs", "");
        place("P40", "lkmrs", "");
        place("P20m30f39", "lkmrs", "");
    }

    private static void speeds() {
        place("P20m", "0123", "");
        place("P20m0", "", "123456789");
        place("P20m1", "", DIGITS);
        place("P20m2", "", DIGITS);
        place("P20m3", "", "0");
        place("P40s01f40l0", "", "123456789");
        place("P40s01f40l3", "", "0");
    }

    private static void fouls() {
        place("P20m30", "01234", "f");
        place("P20m01", "01234", "f");
        place("P20m30f20m29", "01234", "f");
        error("Pf", 1);
        error("P20m30ff", 7);
        error("P20f", 3);
        error("P20m3f", 5);
        error("P20m30F", 6);
    }

    private static void blanks() {
        String game = "P20m30f20m30";
        for (int i = 0; i <= game.length(); i++) {
            error(game.substring(0, i) + " " + game.substring(i), i);
        }
    }

    private static void firstError() {
        String game = "P20m30f20m30";
        for (int i = 0; i < game.length(); i++) {
            for (int j = i + 1; j < game.length(); j++) {
                StringBuilder two = new StringBuilder(game);
                two.setCharAt(i, '?');
                two.setCharAt(j, '?');
                error(two.toString(), i);
            }
        }
        error("P" + "00m30".repeat(23) + "00m?", MOST - 1);
        error("x" + "00m30".repeat(23) + "00m?", 0);
    }

    private static void digitsOfNoNumber() {
        error("P5", 1);
        error("P9", 1);
        error("P41m30", 2);
        error("P49m30", 2);
        error("P20m4", 4);
        error("P20m9", 4);
        error("P20m00", 5);
        error("P20m31", 5);
        error("P20m39", 5);
        error("P20m301", 7);
        error("P20m305", 6);
    }

    private static void endsTooSoon() {
        error("", 0);
        String game = "P40s30f00l01";
        for (int n = 2; n < game.length(); n++) {
            if (n != 6 && n != 7) {
                error(game.substring(0, n), n);
            }
        }
        error("P" + "00m30".repeat(23) + "00m", MOST - 1);
        error("P" + "00m30".repeat(23) + "00m3", MOST);
    }

    private static void games() {
        error("P", PinDeck.NONE);
        error(FULL, PinDeck.NONE);
        expect.same("the length of the full text", MOST, with(FULL).clearText());
        error("P00l01", PinDeck.NONE);
        error("P40s30f", PinDeck.NONE);
    }

    private static void gamesBehindTheEnd() {
        PinDeck lane = with("P" + "00m30".repeat(22) + "00m01f");
        expect.same("errorPosition with rolls behind the end", PinDeck.NONE, lane.errorPosition());
        lane.load();
        expect.same("errorPosition behind load", PinDeck.NONE, lane.errorPosition());
    }

    private static void errorPositionChangesNothing() {
        PinDeck lane = with("P20m3x");
        String before = Expect.seen(lane);
        expect.same("errorPosition", 5, lane.errorPosition());
        expect.same("errorPosition again", 5, lane.errorPosition());
        expect.equal("the states", before, Expect.seen(lane));
        expect.badState("undo behind errorPosition", lane::undo);
        expect.same("the length behind errorPosition", 6, lane.clearText());
    }

    // ---- promise 5

    private static PinDeck loaded(String text, int leftOut) {
        PinDeck lane = with(text);
        expect.same("load of " + text, leftOut, lane.load());
        return lane;
    }

    /** A lane behind 9 actions, of which nothing is as in a new object; three rolls have been done. */
    private static PinDeck used() {
        PinDeck lane = new PinDeck();
        lane.roll(20, 0, 1, false);
        lane.roll(0, 0, 30, true);
        lane.roll(20, 0, 30, false);
        lane.touch(6, 2);
        lane.roll(24, 0, 30, false);
        lane.touch(7, 3);
        lane.set(0, 90);
        lane.set(1, 0);
        lane.set(2, 3);
        return lane;
    }

    private static void loadAsNew() {
        PinDeck lane = used();
        for (int what = 0; what < 7; what++) {
            expect.holds("about(" + what + ") is not 0 ahead of load", lane.about(what) > 0);
        }
        expect.holds("a shift is not 0 ahead of load", lane.pin(0, 1) != 0);
        lane.append('P');
        expect.same("load of P", 0, lane.load());
        expect.equal("the states", Expect.seen(new PinDeck()), Expect.seen(lane));
    }

    private static void loadAtTheEnd() {
        PinDeck lane = Expect.allStrikes();
        lane.append('P');
        expect.same("load of P at the end", 0, lane.load());
        expect.equal("the states", Expect.seen(new PinDeck()), Expect.seen(lane));
        Expect.type(lane, "20m30");
        expect.same("load of one roll", 0, lane.load());
        expect.same("its rolls", 1, lane.about(2));
    }

    /** The text of a ball does the same as the method roll: at the ends of all ranges, for a foul and for none. */
    private static void loadRolls() {
        int[] boards = {0, 9, 10, 17, 20, 23, 39, 40};
        int[] speeds = {1, 4, 5, 9, 10, 29, 30};
        for (int board : boards) {
            for (int drift = -2; drift <= 2; drift++) {
                for (int speed : speeds) {
                    ball(board, drift, speed, false);
                    ball(board, drift, speed, true);
                }
            }
        }
    }

    private static void ball(int board, int drift, int speed, boolean foul) {
        String ball = String.format("%02d%c%02d%s", board, "lkmrs".charAt(drift + 2), speed, foul ? "f" : "");
        PinDeck lane = new PinDeck();
        lane.roll(board, drift, speed, foul);
        lane.roll(20, 0, 30, false);
        expect.equal("the states behind " + ball, Expect.seen(lane), Expect.seen(loaded("P" + ball + "20m30", 0)));
    }

    private static void loadFouls() {
        PinDeck lane = loaded("P20m30f20m30", 0);
        expect.same("the fouls", 1, lane.about(6));
        expect.same("what the foul took", 0, lane.taken(0));
        expect.same("what the other one took", 6, lane.taken(1));
        expect.same("the fouls of a ball that is stopped", 0, loaded("P20m04f", 0).about(6));
    }

    private static void leftOut() {
        String game = "P" + "00m30".repeat(20);
        loaded("P", 0);
        loaded(game.substring(0, game.length() - 5), 0);
        loaded(game, 0);
        loaded(game + "20m30", 1);
        loaded(game + "20m30".repeat(3), 3);
        loaded(FULL, 3);
        String third = "P" + "00m30".repeat(18) + SPARE;
        expect.same("the rolls with a spare in the frame 9", 20, loaded(third, 0).about(2));
        expect.same("the rolls with a third roll", 21, loaded(third + "00m30", 0).about(2));
        expect.same("the rolls with one left out", 21, loaded(third + "00m30" + "20m30", 1).about(2));
    }

    private static void leftOutFouls() {
        PinDeck lane = loaded(FULL, 3);
        expect.same("the fouls that are not left out", 1, lane.about(6));
        expect.same("the rolls", 20, lane.about(2));
    }

    private static void leftOutStopped() {
        PinDeck lane = loaded("P" + "00m30".repeat(20) + "20m0120m0420m30", 3);
        expect.same("balls stopped behind the end", 0, lane.about(4));
        PinDeck ahead = loaded("P" + "00m30".repeat(19) + "20m04" + "00m30" + "20m04", 1);
        expect.same("balls stopped ahead of the end", 1, ahead.about(4));
        expect.same("none of 23 is left out", 23, loaded("P" + "20m04".repeat(23), 0).about(4));
    }

    private static void loadRemembersNothing() {
        PinDeck lane = used();
        Expect.type(lane, "P20m3020m30");
        lane.load();
        expect.badState("undo behind load", lane::undo);
        lane.begin();
        expect.same("undo of the one action behind load", 0, lane.undo());
        expect.badState("undo again", lane::undo);
        expect.same("the rolls of the text are still done", 2, lane.about(2));
    }

    private static void loadEmptiesSlots() {
        PinDeck lane = used();
        lane.save(0);
        lane.save(1);
        lane.append('P');
        lane.load();
        expect.badState("restore(0) behind load", () -> lane.restore(0));
        expect.badState("restore(1) behind load", () -> lane.restore(1));
    }

    private static void loadKeepsText() {
        PinDeck lane = loaded(FULL, 3);
        expect.same("load again", 3, lane.load());
        expect.same("the text's length", MOST, lane.clearText());
        PinDeck empty = loaded("P", 0);
        expect.same("the length of P", 1, empty.clearText());
    }

    private static void loadOfNoGame() {
        String[] texts = {"", "x", "p", "P2", "P20m3", "P41m30", "P20m31", "P20m00", "P20m30 ", "P20m30ff",
            "P" + "00m30".repeat(23) + "00m3"};
        for (String text : texts) {
            expect.badState("load of " + text, with(text)::load);
        }
    }

    private static void refusedLoad() {
        PinDeck lane = used();
        lane.save(1);
        Expect.type(lane, "P20m3020m");
        String before = Expect.seen(lane);
        expect.badState("load", lane::load);
        expect.equal("the states", before, Expect.seen(lane));
        expect.same("undo: the states are remembered still", 8, lane.undo());
        expect.same("restore(1): it is kept still", 3, lane.restore(1));
        expect.badState("restore(0): nothing is saved in it still", () -> lane.restore(0));
        expect.same("the text's length still", 9, lane.clearText());
    }

    public static void main(String[] args) {
        expect.test(2, "character code, 0 to 255", EdgeTextTest::codes);
        expect.test(2, "Returns the new length of the text.", EdgeTextTest::newLength);
        expect.test(2, "Throws `IllegalStateException` if the text already has 120 characters", EdgeTextTest::fullText);
        expect.test(2, "the one that its description names first is thrown", EdgeTextTest::wrongCodeToFullText);
        expect.test(2, "A call that throws an exception changes nothing.", EdgeTextTest::refusedAppend);
        expect.test(2, "everything but the text and the save slots", EdgeTextTest::appendIsNoAction);
        expect.test(3, "Returns the previous length of the text.", EdgeTextTest::previousLength);
        expect.test(3, "Empties the text buffer.", EdgeTextTest::emptied);
        expect.test(3, "everything but the text and the save slots", EdgeTextTest::clearTextIsNoAction);
        expect.test(4, "A game as a text is the letter P", EdgeTextTest::letterP);
        expect.test(4, "and then any number of rolls", EdgeTextTest::numberOfRolls);
        expect.test(4, "two digits for a board (00 to 40)", EdgeTextTest::boards);
        expect.test(4, "any number of rolls: two digits for a board (00 to 40)", EdgeTextTest::boardsOfLaterRolls);
        expect.test(4, "one of the letters l, k, m, r, s for the drift", EdgeTextTest::drifts);
        expect.test(4, "two digits for a speed (01 to 30)", EdgeTextTest::speeds);
        expect.test(4, "and perhaps the letter f: a foul", EdgeTextTest::fouls);
        expect.test(4, "There are no blanks.", EdgeTextTest::blanks);
        expect.test(4, "The text is read from left to right. The error position is the index of the first character "
                + "that these rules do not allow at its place", EdgeTextTest::firstError);
        expect.test(4, "a digit is not allowed if no number that is allowed begins with it and those before it",
                EdgeTextTest::digitsOfNoNumber);
        expect.test(4, "if the text ends too soon, it is the length of the text", EdgeTextTest::endsTooSoon);
        expect.test(4, "Returns the error position of the text; NONE if it is a game.", EdgeTextTest::games);
        expect.test(4, "Rolls behind the end of the game", EdgeTextTest::gamesBehindTheEnd);
        expect.test(4, "Checks the text.", EdgeTextTest::errorPositionChangesNothing);
        expect.test(5, "Makes everything as in a new object", EdgeTextTest::loadAsNew);
        expect.test(5, "A new object has a new game.", EdgeTextTest::loadAtTheEnd);
        expect.test(5, "and then does the rolls of the text", EdgeTextTest::loadRolls);
        expect.test(5, "and perhaps the letter f: a foul", EdgeTextTest::loadFouls);
        expect.test(5, "Returns the number of rolls that are left out.", EdgeTextTest::leftOut);
        expect.test(5, "Rolls behind the end of the game", EdgeTextTest::leftOutFouls);
        expect.test(5, "(also of balls that would be stopped) are left out", EdgeTextTest::leftOutStopped);
        expect.test(5, "Behind it no state is remembered", EdgeTextTest::loadRemembersNothing);
        expect.test(5, "and both save slots are empty", EdgeTextTest::loadEmptiesSlots);
        expect.test(5, "Keeps the text.", EdgeTextTest::loadKeepsText);
        expect.test(5, "Throws `IllegalStateException` if the text is not a game", EdgeTextTest::loadOfNoGame);
        expect.test(5, "A call that throws an exception changes nothing.", EdgeTextTest::refusedLoad);
        expect.covers(2, 5);
        expect.end();
    }
}
