import java.util.function.Consumer;

/** Promises 16 to 20: would, bestBoard, slowest, goesOn, drops. */
public final class WouldTest {
    private static final Expect expect = new Expect("WouldTest");

    /** Does what would be, and then looks whether the lane is as it was. */
    private static void changesNothing(PinDeck lane, Consumer<PinDeck> body) {
        String before = Expect.seen(lane);
        body.accept(lane);
        expect.equal("the states", before, Expect.seen(lane));
    }

    private static void balls(PinDeck lane, int board, int drift, int... due) {
        for (int what = 0; what < 4; what++) {
            expect.same("would(" + board + ", " + drift + ", " + what + ")", due[what],
                    lane.would(board, drift, what));
        }
    }

    private static void would() {
        PinDeck lane = new PinDeck();
        changesNothing(lane, same -> {
            balls(same, 20, 0, 407, 40, 6, 0);
            balls(same, 24, 0, 292, 529, 3, 0);
            balls(same, 14, 2, 154, 320, 5, 1);
            balls(same, 20, 2, 309, 642, 6, 1);
            balls(same, 20, -2, 155, 324, 6, 1);
            balls(same, 0, 0, 0, 0, 0, 0);
            balls(same, 40, -2, 0, 0, 0, 0);
        });
        lane.touch(1, 2);
        lane.touch(3, 2);
        balls(lane, 23, 2, 559, 336, 6, 0);
        lane.set(1, 1);
        balls(lane, 23, 2, 559, 336, 9, 3);
        balls(lane, 0, 0, 0, 10, 2, 2);
        lane.set(0, 3);
        balls(lane, 0, 0, 0, 10, 2, 2);
        lane.roll(20, 0, 30, false);
        changesNothing(lane, same -> {
            balls(same, 20, 0, 0, 0, 0, 0);
            balls(same, 30, 0, 512, 0, 1, 0);
        });
        expect.badArgument("would(-1, 0, 0)", () -> lane.would(-1, 0, 0));
        expect.badArgument("would(41, 0, 0)", () -> lane.would(41, 0, 0));
        expect.badArgument("would(20, -3, 0)", () -> lane.would(20, -3, 0));
        expect.badArgument("would(20, 3, 0)", () -> lane.would(20, 3, 0));
        expect.badArgument("would(20, 0, -1)", () -> lane.would(20, 0, -1));
        expect.badArgument("would(20, 0, 4)", () -> lane.would(20, 0, 4));
    }

    /** The pin 0 pushes the pin 1, which has fallen already, and so pushes none. */
    private static void wouldPushFallenPins() {
        PinDeck lane = new PinDeck();
        lane.touch(1, 3);
        Expect.beside(lane, false);
        changesNothing(lane, same -> balls(same, 23, 0, 293, 528, 4, 0));
    }

    /** Pins not told as standing that have not fallen are there only behind the last roll. */
    private static void wouldAtTheEnd() {
        PinDeck lane = Expect.after(new int[19]);
        lane.touch(0, 3);
        Expect.beside(lane, false);
        changesNothing(lane, same -> {
            balls(same, 0, 0, 0, 1, 0, 0);
            balls(same, 20, 0, 407, 40, 5, 0);
        });
    }

    private static void bestBoard() {
        PinDeck one = Expect.after(9);
        int[] best = {32, 29, 26, 23, 20};
        for (int drift = -2; drift <= 2; drift++) {
            expect.same("bestBoard(" + drift + ") for the pin 9", best[drift + 2], one.bestBoard(drift));
        }
        one.set(1, 0);
        expect.same("bestBoard(0) with setting 1 as 0", 25, one.bestBoard(0));
        PinDeck none = Expect.after(9);
        none.touch(9, 2);
        expect.same("bestBoard(0) with the pin 9 leaning", 25, none.bestBoard(0));
        none.touch(9, 3);
        expect.same("bestBoard(0), all the same", 0, none.bestBoard(0));
        PinDeck all = new PinDeck();
        for (int drift = -2; drift <= 2; drift++) {
            int lowest = 0;
            for (int board = 1; board <= 40; board++) {
                lowest = all.would(board, drift, 2) > all.would(lowest, drift, 2) ? board : lowest;
            }
            expect.same("bestBoard(" + drift + ")", lowest, all.bestBoard(drift));
        }
        expect.badArgument("bestBoard(-3)", () -> all.bestBoard(-3));
        expect.badArgument("bestBoard(3)", () -> all.bestBoard(3));
        expect.same("bestBoard(0) at the end", Expect.after(new int[20]).bestBoard(0), all.bestBoard(0));
    }

    private static void slowest() {
        PinDeck lane = new PinDeck();
        expect.same("slowest", 5, lane.slowest());
        int[][] due = {{3, 23}, {4, 19}, {17, 6}, {18, 5}, {22, 4}, {21, 5}, {29, 4}, {30, 3}, {44, 3},
            {45, 2}, {89, 2}, {90, 1}};
        for (int[] row : due) {
            lane.set(0, row[0]);
            expect.same("slowest with " + row[0], row[1], lane.slowest());
            expect.holds("it is not stopped", lane.roll(0, 0, row[1], false) == 0);
            if (row[1] > 1) {
                expect.same("a slower one is", PinDeck.NONE, lane.roll(0, 0, row[1] - 1, false));
            }
        }
    }

    private static void goesOn() {
        PinDeck lane = new PinDeck();
        expect.same("goesOn(0, 0)", 0, lane.goesOn(0, 0));
        expect.same("goesOn(20, 0)", 60, lane.goesOn(20, 0));
        lane.set(0, 3);
        expect.same("goesOn(20, 0) with a rake that is fast", 60, lane.goesOn(20, 0));
        PinDeck strikes = Expect.after(10, 10);
        String before = Expect.seen(strikes);
        expect.same("goesOn(20, 0) behind two strikes", 90, strikes.goesOn(20, 0));
        expect.holds("goesOn changes nothing", before.equals(Expect.seen(strikes)));
        expect.same("goesOn(0, 0) behind two strikes", 30, strikes.goesOn(0, 0));
        strikes.touch(6, 3);
        expect.same("goesOn(0, 0) with a pin touched", 10 + 10 + 1 + 10 + 1 + 1, strikes.goesOn(0, 0));
        expect.same("goesOn at the end", 300,
                Expect.after(10, 10, 10, 10, 10, 10, 10, 10, 10, 10, 10, 10).goesOn(20, 0));
        expect.badArgument("goesOn(-1, 0)", () -> lane.goesOn(-1, 0));
        expect.badArgument("goesOn(41, 0)", () -> lane.goesOn(41, 0));
        expect.badArgument("goesOn(20, -3)", () -> lane.goesOn(20, -3));
        expect.badArgument("goesOn(20, 3)", () -> lane.goesOn(20, 3));
    }

    private static void drops() {
        PinDeck lane = new PinDeck();
        expect.same("drops", 0, lane.drops());
        lane.touch(3, 2);
        lane.touch(7, 3);
        lane.touch(9, 1);
        expect.same("drops with leanings 2, 3, 1", 136, lane.drops());
        lane.set(2, 0);
        expect.same("drops with setting 2 as 0", 648, lane.drops());
        lane.set(2, 3);
        expect.same("drops with setting 2 as 3", 0, lane.drops());
        PinDeck end = Expect.after(new int[19]);
        end.touch(0, 3);
        end.touch(1, 2);
        Expect.beside(end, false);
        expect.same("drops: only pins told as standing", 2, end.drops());
        PinDeck fallen = Expect.after(4);
        fallen.touch(5, 3);
        expect.same("drops: no fallen pins", 32, fallen.drops());
    }

    public static void main(String[] args) {
        would();
        wouldPushFallenPins();
        wouldAtTheEnd();
        bestBoard();
        slowest();
        goesOn();
        drops();
        expect.end();
    }
}
