/** The boundary cases of the promises 1 and 6 to 10, a new object and what there is: a test for each sentence. */
public final class EdgeViewTest {
    private static final Expect expect = new Expect("EdgeViewTest");
    private static final int CALLS = 512;

    private static void abouts(String when, PinDeck lane, int... due) {
        for (int what = 0; what < 10; what++) {
            expect.same("about(" + what + ") " + when, due[what], lane.about(what));
        }
    }

    // ---- promise 1

    private static void newGame() {
        PinDeck lane = new PinDeck();
        abouts("of a new object", lane, 0, 0, 0, 0, 0, 0, 0, 10, 10, 0);
        for (int f = 0; f < 10; f++) {
            for (int what = 0; what < 3; what++) {
                expect.same("frame(" + f + ", " + what + ")", 0, lane.frame(f, what));
            }
        }
        expect.outOfBounds("taken(0)", () -> lane.taken(0));
    }

    private static void newRack() {
        PinDeck lane = new PinDeck();
        for (int k = 0; k < 10; k++) {
            expect.same("the leaning of " + k, 0, lane.pin(k, 0));
            expect.same("the shift of " + k, 0, lane.pin(k, 1));
            expect.same("told of " + k, 1, lane.pin(k, 3));
        }
    }

    private static void rows() {
        PinDeck lane = new PinDeck();
        int k = 0;
        for (int row = 0; row <= 3; row++) {
            for (int index = 0; index <= row; index++) {
                expect.same("the board of " + k, 20 - 3 * row + 6 * index, lane.pin(k, 2));
                k++;
            }
        }
    }

    private static void firstSettings() {
        PinDeck lane = new PinDeck();
        expect.same("setting 0", 18, lane.setting(0));
        expect.same("setting 1", 2, lane.setting(1));
        expect.same("setting 2", 1, lane.setting(2));
    }

    private static void nothingYet() {
        PinDeck lane = new PinDeck();
        expect.badState("undo", lane::undo);
        expect.badState("restore(0)", () -> lane.restore(0));
        expect.badState("restore(1)", () -> lane.restore(1));
        expect.same("errorPosition", 0, lane.errorPosition());
        expect.same("clearText", 0, lane.clearText());
    }

    private static void lastCalls() {
        PinDeck stopped = new PinDeck();
        for (int i = 1; i < CALLS; i++) {
            stopped.roll(20, 0, 1, false);
        }
        expect.same("about(4) as call 512", CALLS - 1, stopped.about(4));
        PinDeck touched = new PinDeck();
        for (int i = 1; i < CALLS; i++) {
            touched.touch(i % 10, i % 4);
        }
        expect.same("undo as call 512", 13, touched.undo());
        PinDeck best = new PinDeck();
        for (int i = 1; i < CALLS; i++) {
            best.bestBoard(i % 5 - 2);
        }
        expect.same("bestBoard(0) as call 512", new PinDeck().bestBoard(0), best.bestBoard(0));
        PinDeck games = new PinDeck();
        for (int i = 1; i < CALLS; i++) {
            if (i % 21 == 0) {
                games.begin();
            } else {
                games.roll(0, 0, 30, true);
            }
        }
        expect.same("about(6) as call 512", CALLS - 1 - 24, games.about(6));
        PinDeck dropped = new PinDeck();
        for (int i = 0; i < 42; i++) {
            Expect.touchAll(dropped, 2);
            Expect.beside(dropped, false);
            dropped.begin();
        }
        expect.same("about(5) as call 505", 420, dropped.about(5));
    }

    private static void none() {
        expect.same("NONE", -1, PinDeck.NONE);
    }

    private static void objectsApart() {
        PinDeck one = new PinDeck();
        PinDeck other = new PinDeck();
        one.roll(20, 0, 30, false);
        one.set(0, 90);
        one.save(0);
        one.append('P');
        expect.equal("the states", Expect.seen(new PinDeck()), Expect.seen(other));
        expect.badState("undo of the other", other::undo);
        expect.badState("restore(0) of the other", () -> other.restore(0));
        expect.same("the text of the other", 0, other.clearText());
    }

    // ---- promise 6

    private static void aboutRange() {
        PinDeck lane = new PinDeck();
        expect.same("about(0)", 0, lane.about(0));
        expect.same("about(9)", 0, lane.about(9));
        expect.badArgument("about(-1)", () -> lane.about(-1));
        expect.badArgument("about(10)", () -> lane.about(10));
        for (int what : Expect.FAR) {
            expect.badArgument("about(" + what + ")", () -> lane.about(what));
        }
        PinDeck over = Expect.over();
        expect.badArgument("about(10) at the end", () -> over.about(10));
    }

    private static void aboutFrame() {
        PinDeck lane = Expect.after(new int[17]);
        expect.same("about(0) behind 17 rolls", 8, lane.about(0));
        Expect.take(lane, 0);
        expect.same("about(0) behind 18 rolls", 9, lane.about(0));
        Expect.take(lane, 0);
        expect.same("about(0) behind 19 rolls", 9, lane.about(0));
        Expect.take(lane, 0);
        expect.same("about(0) behind 20 rolls", 10, lane.about(0));
        expect.same("about(0) behind a strike", 1, Expect.after(10).about(0));
        expect.same("about(0) behind 9", 0, Expect.after(9).about(0));
        PinDeck strikes = Expect.after(10, 10, 10, 10, 10, 10, 10, 10, 10, 10, 10);
        expect.same("about(0) behind 11 strikes", 9, strikes.about(0));
        Expect.take(strikes, 0);
        expect.same("about(0) behind a third roll", 10, strikes.about(0));
    }

    private static void aboutRollsOfFrame() {
        PinDeck lane = Expect.aheadOfLastFrame();
        int[] takes = {10, 10, 10};
        for (int i = 0; i < 3; i++) {
            expect.same("about(1) behind " + i + " rolls", i, lane.about(1));
            Expect.take(lane, takes[i]);
        }
        expect.same("about(1) at the end", 0, lane.about(1));
        expect.same("about(1) at the end behind two rolls", 0, Expect.over().about(1));
        expect.same("about(1) behind one roll", 1, Expect.after(3).about(1));
        expect.same("about(1) behind two rolls", 0, Expect.after(3, 4).about(1));
        expect.same("about(1) behind a strike", 0, Expect.after(10).about(1));
    }

    private static void aboutRolls() {
        expect.same("about(2) of 12 strikes", 12, Expect.allStrikes().about(2));
        expect.same("about(2) of 20 rolls", 20, Expect.over().about(2));
        PinDeck most = Expect.aheadOfLastFrame();
        Expect.take(most, 0);
        Expect.take(most, 10);
        expect.same("about(2) behind 20 rolls that go on", 20, most.about(2));
        Expect.take(most, 0);
        expect.same("about(2) behind 21 rolls", 21, most.about(2));
        PinDeck lane = new PinDeck();
        lane.roll(20, 0, 4, false);
        expect.same("about(2) behind a ball that is stopped", 0, lane.about(2));
        lane.roll(20, 0, 5, true);
        expect.same("about(2) behind a foul", 1, lane.about(2));
    }

    private static void aboutPoints() {
        expect.same("about(3) of the least", 0, Expect.over().about(3));
        expect.same("about(3) of the most", 300, Expect.allStrikes().about(3));
        PinDeck lane = Expect.after(10, 10);
        expect.same("about(3) of two strikes", 10 + 10 + 10, lane.about(3));
        Expect.take(lane, 9);
        expect.same("about(3) of two strikes and 9", 29 + 19 + 9, lane.about(3));
    }

    private static void aboutStopped() {
        PinDeck lane = new PinDeck();
        lane.roll(20, 0, 5, false);
        expect.same("about(4) behind a ball of 18 ticks", 0, lane.about(4));
        lane.roll(20, 0, 4, false);
        lane.roll(20, 0, 1, true);
        expect.same("about(4) behind two that are stopped", 2, lane.about(4));
        PinDeck over = Expect.over();
        expect.badState("roll at the end", () -> over.roll(20, 0, 1, false));
        expect.same("about(4) at the end", 0, over.about(4));
    }

    private static void aboutDropped() {
        expect.same("about(5), all ten having dropped", 10, Expect.allDropped().about(5));
        PinDeck lane = new PinDeck();
        Expect.touchAll(lane, 1);
        Expect.beside(lane, false);
        expect.same("about(5), none having dropped", 0, lane.about(5));
        Expect.touchAll(lane, 2);
        Expect.beside(lane, false);
        expect.same("about(5) behind the frame", 0, lane.about(5));
    }

    private static void aboutFouls() {
        PinDeck lane = new PinDeck();
        lane.roll(20, 0, 4, true);
        expect.same("about(6) behind a foul that is stopped", 0, lane.about(6));
        lane.roll(20, 0, 5, true);
        lane.roll(20, 0, 5, false);
        expect.same("about(6) behind a foul and a roll", 1, lane.about(6));
    }

    private static void aboutTold() {
        expect.same("about(7), none being told", 0, Expect.allDropped().about(7));
        PinDeck lane = Expect.aheadOfLast();
        Expect.touchAll(lane, 2);
        Expect.beside(lane, false);
        expect.same("about(7), all leaning by setting 1", 10, lane.about(7));
        PinDeck more = Expect.lastFrame(10, 10);
        Expect.touchAll(more, 3);
        Expect.beside(more, false);
        expect.same("about(7), all leaning by more", 0, more.about(7));
    }

    private static void aboutNotFallen() {
        expect.same("about(8), all having fallen", 0, Expect.allDropped().about(8));
        PinDeck lane = Expect.lastFrame(10, 10, 10);
        expect.same("about(7), all leaning", 0, lane.about(7));
        expect.same("about(8), all leaning, none told", 10, lane.about(8));
    }

    private static void aboutOver() {
        PinDeck lane = Expect.aheadOfLast();
        expect.same("about(9) ahead of the last roll", 0, lane.about(9));
        Expect.take(lane, 0);
        expect.same("about(9) behind the last roll", 1, lane.about(9));
        lane.undo();
        expect.same("about(9) behind undo", 0, lane.about(9));
    }

    // ---- promise 7

    private static void pinRange() {
        PinDeck lane = new PinDeck();
        for (int what = 0; what < 4; what++) {
            int w = what;
            expect.outOfBounds("pin(-1, " + w + ")", () -> lane.pin(-1, w));
            expect.outOfBounds("pin(10, " + w + ")", () -> lane.pin(10, w));
        }
        for (int k : Expect.FAR) {
            expect.outOfBounds("pin(" + k + ", 0)", () -> lane.pin(k, 0));
        }
        expect.same("pin(0, 2)", 20, lane.pin(0, 2));
        expect.same("pin(9, 2)", 29, lane.pin(9, 2));
    }

    private static void pinWhat() {
        PinDeck lane = new PinDeck();
        expect.same("pin(0, 0)", 0, lane.pin(0, 0));
        expect.same("pin(0, 3)", 1, lane.pin(0, 3));
        expect.badArgument("pin(0, -1)", () -> lane.pin(0, -1));
        expect.badArgument("pin(9, 4)", () -> lane.pin(9, 4));
        for (int what : Expect.FAR) {
            expect.badArgument("pin(0, " + what + ")", () -> lane.pin(0, what));
        }
    }

    private static void pinBothWrong() {
        PinDeck lane = new PinDeck();
        expect.outOfBounds("pin(-1, -1)", () -> lane.pin(-1, -1));
        expect.outOfBounds("pin(10, 4)", () -> lane.pin(10, 4));
    }

    private static void pinLeaning() {
        PinDeck lane = new PinDeck();
        for (int v = 0; v <= 3; v++) {
            lane.touch(9, v);
            expect.same("pin(9, 0) behind touch(9, " + v + ")", v, lane.pin(9, 0));
        }
        lane.roll(29, 0, 30, false);
        expect.same("pin(9, 0), it having fallen", 4, lane.pin(9, 0));
    }

    /** Ahead of the last roll but one, the pin 0 is grazed twice, from 16 and 17 or from 24 and 23. */
    private static PinDeck grazedTwice(int first, int second) {
        PinDeck lane = Expect.aheadOfLastFrame();
        lane.roll(first, 0, 30, false);
        lane.roll(second, 0, 30, false);
        return lane;
    }

    private static void pinShift() {
        expect.same("the highest shift", 2, grazedTwice(16, 17).pin(0, 1));
        expect.same("the lowest shift", -2, grazedTwice(24, 23).pin(0, 1));
    }

    private static void pinBoard() {
        expect.same("the board with the highest shift", 22, grazedTwice(16, 17).pin(0, 2));
        expect.same("the board with the lowest shift", 18, grazedTwice(24, 23).pin(0, 2));
        PinDeck fallen = Expect.aheadOfLast();
        fallen.touch(0, 3);
        fallen.roll(24, 0, 30, false);
        expect.same("the leaning of a pin that fell grazed", 4, fallen.pin(0, 0));
        expect.same("its shift", -1, fallen.pin(0, 1));
        expect.same("its board", 19, fallen.pin(0, 2));
    }

    private static void pinTold() {
        PinDeck lane = Expect.aheadOfLast();
        lane.touch(0, 2);
        lane.touch(1, 3);
        expect.same("pin(1, 3) ahead of the roll", 1, lane.pin(1, 3));
        Expect.beside(lane, false);
        expect.same("pin(0, 3), leaning by setting 1", 1, lane.pin(0, 3));
        expect.same("pin(1, 3), leaning by more", 0, lane.pin(1, 3));
        expect.same("pin(1, 0), not having fallen", 3, lane.pin(1, 0));
    }

    // ---- promise 8

    private static void frameRange() {
        PinDeck lane = new PinDeck();
        for (int what = 0; what < 3; what++) {
            int w = what;
            expect.same("frame(0, " + w + ")", 0, lane.frame(0, w));
            expect.same("frame(9, " + w + ")", 0, lane.frame(9, w));
            expect.outOfBounds("frame(-1, " + w + ")", () -> lane.frame(-1, w));
            expect.outOfBounds("frame(10, " + w + ")", () -> lane.frame(10, w));
        }
        for (int f : Expect.FAR) {
            expect.outOfBounds("frame(" + f + ", 0)", () -> lane.frame(f, 0));
        }
        PinDeck over = Expect.over();
        expect.same("frame(9, 0) at the end", 2, over.frame(9, 0));
        expect.outOfBounds("frame(10, 0) at the end", () -> over.frame(10, 0));
    }

    private static void frameWhat() {
        PinDeck lane = new PinDeck();
        expect.badArgument("frame(0, -1)", () -> lane.frame(0, -1));
        expect.badArgument("frame(9, 3)", () -> lane.frame(9, 3));
        for (int what : Expect.FAR) {
            expect.badArgument("frame(0, " + what + ")", () -> lane.frame(0, what));
        }
    }

    private static void frameBothWrong() {
        PinDeck lane = new PinDeck();
        expect.outOfBounds("frame(-1, -1)", () -> lane.frame(-1, -1));
        expect.outOfBounds("frame(10, 3)", () -> lane.frame(10, 3));
    }

    private static void frameRolls() {
        PinDeck lane = Expect.after(3, 4, 5);
        expect.same("frame(0, 0), it being over", 2, lane.frame(0, 0));
        expect.same("frame(1, 0), its first roll being done", 1, lane.frame(1, 0));
        expect.same("frame(2, 0), none of its rolls being done", 0, lane.frame(2, 0));
        expect.same("frame(0, 0) of a strike", 1, Expect.after(10).frame(0, 0));
        expect.same("frame(0, 0) of 0 and 10", 2, Expect.after(0, 10).frame(0, 0));
        expect.same("frame(9, 0) of three strikes", 3, Expect.allStrikes().frame(9, 0));
        expect.same("frame(9, 0) of two rolls", 2, Expect.over().frame(9, 0));
    }

    private static void framePoints() {
        expect.same("frame(0, 1) of 9", 9, Expect.after(9).frame(0, 1));
        expect.same("frame(0, 1) of 0 and 9, and 10", 9, Expect.after(0, 9, 10).frame(0, 1));
        expect.same("frame(0, 1) of 4 and 5, and 10", 9, Expect.after(4, 5, 10).frame(0, 1));
        expect.same("frame(0, 1) of three strikes", 30, Expect.after(10, 10, 10, 10).frame(0, 1));
        expect.same("frame(0, 1) of a strike, 4, 6 and 9", 20, Expect.after(10, 4, 6, 9).frame(0, 1));
        expect.same("frame(0, 1) of a spare, and 10", 20, Expect.after(4, 6, 10, 9).frame(0, 1));
        expect.same("frame(0, 1) of 0 and 10, and 9", 19, Expect.after(0, 10, 9, 1).frame(0, 1));
    }

    private static void frameNotDone() {
        PinDeck lane = Expect.after(10);
        expect.same("frame(0, 1) of a strike alone", 10, lane.frame(0, 1));
        Expect.take(lane, 7);
        expect.same("frame(0, 1) of a strike and one roll", 17, lane.frame(0, 1));
        Expect.take(lane, 2);
        expect.same("frame(0, 1) of a strike and two rolls", 19, lane.frame(0, 1));
        expect.same("frame(1, 1)", 9, lane.frame(1, 1));
        expect.same("frame(2, 1), it not having begun", 0, lane.frame(2, 1));
        expect.same("frame(0, 1) of a spare alone", 10, Expect.after(3, 7).frame(0, 1));
        PinDeck again = Expect.after(10, 10, 10);
        again.begin();
        Expect.take(again, 10);
        expect.same("frame(0, 1) behind a longer game", 10, again.frame(0, 1));
    }

    private static void frameEightPoints() {
        PinDeck lane = Expect.after(new int[16]);
        for (int n : new int[] {10, 10, 10, 9}) {
            Expect.take(lane, n);
        }
        expect.same("frame(8, 1) of a strike takes two rolls of the frame 9", 30, lane.frame(8, 1));
        expect.same("frame(9, 1) of 10, 10, 9", 29, lane.frame(9, 1));
        PinDeck spare = Expect.after(new int[16]);
        for (int n : new int[] {5, 5, 10, 10, 9}) {
            Expect.take(spare, n);
        }
        expect.same("frame(8, 1) of a spare takes one roll of the frame 9", 20, spare.frame(8, 1));
    }

    private static void frameNinePoints() {
        expect.same("frame(9, 1) of 10, 10, 10", 30, Expect.lastFrame(10, 10, 10).frame(9, 1));
        expect.same("frame(9, 1) of 10, 10", 20, Expect.lastFrame(10, 10).frame(9, 1));
        expect.same("frame(9, 1) of 10", 10, Expect.lastFrame(10).frame(9, 1));
        expect.same("frame(9, 1) of 4, 6, 10", 20, Expect.lastFrame(4, 6, 10).frame(9, 1));
        expect.same("frame(9, 1) of 4, 6", 10, Expect.lastFrame(4, 6).frame(9, 1));
        expect.same("frame(9, 1) of 4, 5", 9, Expect.lastFrame(4, 5).frame(9, 1));
    }

    private static void frameMark() {
        int[][] due = {{10, 0, 1}, {0, 10, 2}, {9, 1, 2}, {1, 9, 2}, {9, 0, 0}, {0, 9, 0}, {0, 0, 0}};
        for (int[] row : due) {
            PinDeck lane = Expect.after(row[0], row[1]);
            expect.same("frame(0, 2) of " + row[0] + " and " + row[1], row[2], lane.frame(0, 2));
        }
        expect.same("frame(0, 2) of 9 alone", 0, Expect.after(9).frame(0, 2));
        expect.same("frame(0, 2) of 0 alone", 0, Expect.after(0).frame(0, 2));
        expect.same("frame(1, 2), it not having begun", 0, Expect.after(10).frame(1, 2));
        expect.same("frame(0, 2) of 5, 4 and a 1 behind it", 0, Expect.after(5, 4, 1).frame(0, 2));
    }

    private static void frameNineMark() {
        expect.same("frame(9, 2) of 10, 0, 10", 1, Expect.lastFrame(10, 0, 10).frame(9, 2));
        expect.same("frame(9, 2) of 10, 4, 6", 1, Expect.lastFrame(10, 4, 6).frame(9, 2));
        expect.same("frame(9, 2) of 4, 6, 10", 2, Expect.lastFrame(4, 6, 10).frame(9, 2));
        expect.same("frame(9, 2) of 0, 10, 0", 2, Expect.lastFrame(0, 10, 0).frame(9, 2));
        expect.same("frame(9, 2) of 4, 5", 0, Expect.lastFrame(4, 5).frame(9, 2));
        expect.same("frame(9, 2) of 4", 0, Expect.lastFrame(4).frame(9, 2));
    }

    // ---- promise 9

    private static void takenRange() {
        PinDeck lane = new PinDeck();
        expect.outOfBounds("taken(0) without rolls", () -> lane.taken(0));
        expect.outOfBounds("taken(-1) without rolls", () -> lane.taken(-1));
        Expect.take(lane, 3);
        expect.same("taken(0)", 3, lane.taken(0));
        expect.outOfBounds("taken(1) behind one roll", () -> lane.taken(1));
        expect.outOfBounds("taken(-1) behind one roll", () -> lane.taken(-1));
        for (int i : Expect.FAR) {
            expect.outOfBounds("taken(" + i + ")", () -> lane.taken(i));
        }
    }

    private static void takenMost() {
        PinDeck lane = Expect.lastFrame(2, 8, 7);
        expect.same("taken(18)", 2, lane.taken(18));
        expect.same("taken(19)", 8, lane.taken(19));
        expect.same("taken(20)", 7, lane.taken(20));
        expect.outOfBounds("taken(21)", () -> lane.taken(21));
        PinDeck strikes = Expect.allStrikes();
        expect.same("taken(11)", 10, strikes.taken(11));
        expect.outOfBounds("taken(12)", () -> strikes.taken(12));
    }

    private static void takenBehindStopped() {
        PinDeck lane = new PinDeck();
        lane.roll(20, 0, 4, false);
        expect.outOfBounds("taken(0) behind a ball that is stopped", () -> lane.taken(0));
        lane.roll(20, 0, 5, true);
        expect.same("taken(0) of a foul", 0, lane.taken(0));
        lane.roll(20, 0, 5, false);
        expect.same("taken(1)", 6, lane.taken(1));
    }

    private static void takenOfFormerGame() {
        PinDeck lane = Expect.after(3, 4);
        lane.begin();
        expect.outOfBounds("taken(0) behind begin", () -> lane.taken(0));
        lane.undo();
        expect.same("taken(1) behind undo", 4, lane.taken(1));
        lane.undo();
        expect.outOfBounds("taken(1) behind another undo", () -> lane.taken(1));
    }

    // ---- promise 10

    private static void settingRange() {
        PinDeck lane = new PinDeck();
        expect.same("setting(0)", 18, lane.setting(0));
        expect.same("setting(2)", 1, lane.setting(2));
        expect.badArgument("setting(-1)", () -> lane.setting(-1));
        expect.badArgument("setting(3)", () -> lane.setting(3));
        for (int what : Expect.FAR) {
            expect.badArgument("setting(" + what + ")", () -> lane.setting(what));
        }
    }

    private static void settingEnds() {
        int[][] ends = {{3, 90}, {0, 3}, {0, 3}};
        for (int what = 0; what < 3; what++) {
            for (int v : ends[what]) {
                PinDeck lane = new PinDeck();
                lane.set(what, v);
                for (int other = 0; other < 3; other++) {
                    int due = other == what ? v : new PinDeck().setting(other);
                    expect.same("setting(" + other + ") with " + what + " as " + v, due, lane.setting(other));
                }
            }
        }
    }

    private static void testNewObject() {
        expect.test(1, "A new object has a new game.", EdgeViewTest::newGame);
        expect.test(1, "A new rack: all pins stand, with the shift 0 and leaning by 0.", EdgeViewTest::newRack);
        expect.test(1, "its board is 20 - 3 * (its row) + 6 * (its index) + its shift", EdgeViewTest::rows);
        expect.test(1, "0: how many ticks the machine waits, 3 to 90, at first 18; 1: the leaning that is told as "
                + "standing, 0 to 3, at first 2; 2: the leaning that grips bear, 0 to 3, at first 1.",
                EdgeViewTest::firstSettings);
        expect.test(1, "`PinDeck()`: Creates a lane with a new game.", EdgeViewTest::nothingYet);
        expect.test(1, "An object is used for at most 512 calls after it has been made", EdgeViewTest::lastCalls);
        expect.test(1, "The constants: `NONE = -1`: There is no such result.", EdgeViewTest::none);
        expect.test(1, "The methods in the section \"actions\" change the state", EdgeViewTest::objectsApart);
    }

    private static void testAbout() {
        expect.test(6, "Throws `IllegalArgumentException` if what is not 0 to 9", EdgeViewTest::aboutRange);
        expect.test(6, "0: the frame, 10 if the game is over", EdgeViewTest::aboutFrame);
        expect.test(6, "1: the rolls of this frame so far, 0 if it is over", EdgeViewTest::aboutRollsOfFrame);
        expect.test(6, "2: the rolls of the game so far", EdgeViewTest::aboutRolls);
        expect.test(6, "3: the points of all frames", EdgeViewTest::aboutPoints);
        expect.test(6, "4: the balls stopped so far", EdgeViewTest::aboutStopped);
        expect.test(6, "5: the pins dropped by grips so far", EdgeViewTest::aboutDropped);
        expect.test(6, "6: the fouls so far", EdgeViewTest::aboutFouls);
        expect.test(6, "7: how many pins are told as standing", EdgeViewTest::aboutTold);
        expect.test(6, "8: how many have not fallen", EdgeViewTest::aboutNotFallen);
        expect.test(6, "9: 1 if the game is over, otherwise 0", EdgeViewTest::aboutOver);
    }

    private static void testPin() {
        expect.test(7, "Throws `IndexOutOfBoundsException` if there is no such pin", EdgeViewTest::pinRange);
        expect.test(7, "Throws `IllegalArgumentException` if what is not 0 to 3", EdgeViewTest::pinWhat);
        expect.test(7, "the one that its description names first is thrown", EdgeViewTest::pinBothWrong);
        expect.test(7, "0: its leaning, 4 if it has fallen", EdgeViewTest::pinLeaning);
        expect.test(7, "A pin has a shift, -2 to 2", EdgeViewTest::pinShift);
        expect.test(7, "its board is 20 - 3 * (its row) + 6 * (its index) + its shift", EdgeViewTest::pinBoard);
        expect.test(7, "3: 1 if it is told as standing, otherwise 0", EdgeViewTest::pinTold);
    }

    private static void testFrame() {
        expect.test(8, "Throws `IndexOutOfBoundsException` if there is no such frame", EdgeViewTest::frameRange);
        expect.test(8, "Throws `IllegalArgumentException` if what is not 0 to 2", EdgeViewTest::frameWhat);
        expect.test(8, "the one that its description names first is thrown", EdgeViewTest::frameBothWrong);
        expect.test(8, "0: its rolls so far", EdgeViewTest::frameRolls);
        expect.test(8, "with a strike those of the next two rolls besides, with a spare that of the next one",
                EdgeViewTest::framePoints);
        expect.test(8, "(rolls that have not been done count 0)", EdgeViewTest::frameNotDone);
        expect.test(8, "in the frames 0 to 8, with a strike those of the next two rolls besides",
                EdgeViewTest::frameEightPoints);
        expect.test(8, "The points of a frame are what its rolls take", EdgeViewTest::frameNinePoints);
        expect.test(8, "Two rolls that take 10 together, the first one not all of them, are a spare.",
                EdgeViewTest::frameMark);
        expect.test(8, "(of the frame 9 by its first two rolls)", EdgeViewTest::frameNineMark);
    }

    private static void testTakenAndSetting() {
        expect.test(9, "Throws `IndexOutOfBoundsException` if there is no such roll", EdgeViewTest::takenRange);
        expect.test(9, "roll of the game, from 0", EdgeViewTest::takenMost);
        expect.test(9, "it counts as no roll", EdgeViewTest::takenBehindStopped);
        expect.test(9, "Returns what a roll took.", EdgeViewTest::takenOfFormerGame);
        expect.test(10, "Throws `IllegalArgumentException` if what is out of range", EdgeViewTest::settingRange);
        expect.test(10, "Returns that setting.", EdgeViewTest::settingEnds);
    }

    public static void main(String[] args) {
        testNewObject();
        testAbout();
        testPin();
        testFrame();
        testTakenAndSetting();
        expect.covers(1, 1);
        expect.covers(6, 10);
        expect.end();
    }
}
