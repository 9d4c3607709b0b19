/** Promises 11 to 15: begin, roll, touch, set, undo. */
public final class ActionTest {
    private static final Expect expect = new Expect("ActionTest");

    private static void begin() {
        PinDeck lane = Expect.after(10, 3, 7, 4);
        lane.roll(20, 0, 30, true);
        lane.roll(20, 0, 1, false);
        lane.touch(5, 3);
        lane.roll(20, 0, 30, false);
        lane.set(0, 20);
        int dropped = lane.about(5);
        int points = lane.about(3);
        expect.same("begin", points, lane.begin());
        int[] about = {0, 0, 0, 0, 1, dropped, 1, 10, 10, 0};
        for (int what = 0; what < 10; what++) {
            expect.same("about(" + what + ") behind begin", about[what], lane.about(what));
        }
        expect.same("setting 0 behind begin", 20, lane.setting(0));
        expect.same("pin(5, 0) behind begin", 0, lane.pin(5, 0));
        expect.same("frame(0, 1) behind begin", 0, lane.frame(0, 1));
        expect.outOfBounds("taken(0) behind begin", () -> lane.taken(0));
        expect.same("begin again", 0, lane.begin());
        PinDeck over = Expect.after(new int[20]);
        expect.same("begin at the end", 0, over.begin());
        expect.same("over behind begin", 0, over.about(9));
        expect.same("the first roll of the new game", 6, over.roll(20, 0, 30, false));
    }

    private static void pins(String name, PinDeck lane, int... leanings) {
        for (int k = 0; k < 10; k++) {
            expect.same(name + ": the leaning of " + k, leanings[k], lane.pin(k, 0));
        }
    }

    private static void rollInTheMiddle() {
        PinDeck lane = new PinDeck();
        lane.set(2, 2);
        expect.same("roll(20, 0)", 6, lane.roll(20, 0, 30, false));
        pins("20, 0", lane, 4, 4, 4, 0, 4, 0, 0, 4, 4, 0);
        expect.same("none dropped", 0, lane.about(5));
        expect.same("told", 4, lane.about(7));
        expect.same("the second one", 0, lane.roll(20, 0, 30, false));
        pins("a new frame", lane, 0, 0, 0, 0, 0, 0, 0, 0, 0, 0);
    }

    /** Behind the game's last roll the pins are left as the ball left them, so that all of them can be seen. */
    private static PinDeck aheadOfLast() {
        return Expect.after(new int[19]);
    }

    private static void rollWithDrift() {
        PinDeck lane = aheadOfLast();
        expect.same("roll(14, 2)", 5, lane.roll(14, 2, 30, false));
        pins("14, 2", lane, 0, 4, 0, 4, 4, 0, 2, 4, 3, 0);
        expect.same("the shift of 8", 1, lane.pin(8, 1));
        expect.same("the board of 8", 24, lane.pin(8, 2));
        expect.same("told of 8", 0, lane.pin(8, 3));
        expect.same("told of 6", 1, lane.pin(6, 3));
    }

    private static void rollPushes() {
        PinDeck lane = aheadOfLast();
        lane.touch(1, 2);
        lane.touch(3, 2);
        expect.same("roll(23, 2)", 6, lane.roll(23, 2, 30, false));
        pins("23, 2", lane, 4, 4, 4, 4, 2, 4, 2, 0, 2, 4);
        PinDeck other = aheadOfLast();
        other.touch(2, 2);
        other.touch(5, 2);
        expect.same("roll(17, -2)", 6, other.roll(17, -2, 30, false));
        pins("17, -2", other, 4, 4, 4, 4, 2, 4, 4, 2, 0, 2);
    }

    private static void rollGrazes() {
        PinDeck left = aheadOfLast();
        left.touch(0, 3);
        left.roll(24, 0, 30, false);
        pins("a graze to the left", left, 4, 2, 4, 0, 2, 4, 0, 0, 4, 2);
        expect.same("its shift", -1, left.pin(0, 1));
        expect.same("its board", 19, left.pin(0, 2));
        PinDeck right = aheadOfLast();
        right.touch(0, 3);
        right.roll(16, 0, 30, false);
        pins("a graze to the right", right, 4, 4, 2, 4, 2, 0, 2, 4, 0, 0);
        expect.same("its shift to the right", 1, right.pin(0, 1));
        PinDeck twice = Expect.after(new int[18]);
        twice.roll(24, 0, 30, false);
        expect.same("the shift behind one graze", -1, twice.pin(0, 1));
        expect.same("the leaning behind one graze", 0, twice.pin(0, 0));
        twice.roll(23, 0, 30, false);
        expect.same("the shift behind two grazes", -2, twice.pin(0, 1));
        expect.same("the board behind two grazes", 18, twice.pin(0, 2));
        expect.same("the leaning behind two grazes", 1, twice.pin(0, 0));
    }

    private static void newRackHasNoShifts() {
        PinDeck lane = new PinDeck();
        lane.roll(24, 0, 30, false);
        expect.same("the shift in the frame", -1, lane.pin(0, 1));
        lane.roll(0, 0, 30, false);
        expect.same("the shift in the next frame", 0, lane.pin(0, 1));
        lane.roll(24, 0, 30, false);
        lane.begin();
        expect.same("the shift behind begin", 0, lane.pin(0, 1));
    }

    private static void rollAtReach() {
        int[] boards = {0, 1, 15, 16, 17, 23, 24, 25, 40};
        int[] leanings = {0, 0, 0, 1, 4, 4, 1, 0, 0};
        for (int i = 0; i < boards.length; i++) {
            PinDeck lane = aheadOfLast();
            lane.roll(boards[i], 0, 30, false);
            expect.same("pin 0 behind a ball at " + boards[i], leanings[i], lane.pin(0, 0));
        }
    }

    private static void sensors() {
        PinDeck lane = new PinDeck();
        lane.touch(3, 2);
        lane.touch(6, 3);
        expect.same("told of a touched pin", 1, lane.pin(6, 3));
        expect.same("a roll beside them", 1, Expect.beside(lane, false));
        expect.same("the pin told as fallen has fallen then", 4, lane.pin(6, 0));
        expect.same("the pin told as standing drops", 4, lane.pin(3, 0));
        expect.same("it is not told any more", 0, lane.pin(3, 3));
        expect.same("dropped", 1, lane.about(5));
        expect.same("taken by nobody", 1, lane.about(3));
        lane.set(1, 0);
        lane.touch(0, 1);
        expect.same("a leaning of 1 with setting 1 as 0", 1, Expect.beside(lane, false));
        lane.set(1, 3);
        lane.touch(0, 3);
        lane.set(2, 3);
        expect.same("a leaning of 3 with setting 1 as 3", 0, Expect.beside(lane, false));
        expect.same("set where it stood", 0, lane.pin(0, 0));
        expect.same("no more dropped", 1, lane.about(5));
    }

    private static void rake() {
        PinDeck lane = new PinDeck();
        expect.same("a ball of 22 ticks", PinDeck.NONE, lane.roll(20, 0, 4, false));
        expect.same("one that is a foul", PinDeck.NONE, lane.roll(20, 0, 1, true));
        expect.same("stopped", 2, lane.about(4));
        expect.same("no rolls", 0, lane.about(2));
        expect.same("no fouls", 0, lane.about(6));
        expect.same("all stand", 10, lane.about(8));
        lane.touch(0, 3);
        lane.roll(20, 0, 4, false);
        expect.same("nothing else happens", 3, lane.pin(0, 0));
        expect.same("nothing is told", 10, lane.about(7));
        lane.touch(0, 0);
        expect.same("a ball of 18 ticks", 6, lane.roll(20, 0, 5, false));
        lane.set(0, 3);
        expect.same("90 / 22 with setting 0 as 3", PinDeck.NONE, lane.roll(0, 0, 22, false));
        expect.same("90 / 23 with setting 0 as 3", 0, lane.roll(0, 0, 23, false));
    }

    private static void foul() {
        PinDeck lane = new PinDeck();
        lane.touch(3, 2);
        lane.touch(4, 1);
        expect.same("a foul", 0, lane.roll(20, 0, 30, true));
        pins("a foul", lane, 0, 0, 0, 4, 0, 0, 0, 0, 0, 0);
        expect.same("fouls", 1, lane.about(6));
        expect.same("dropped behind a foul", 1, lane.about(5));
        expect.same("told behind a foul", 9, lane.about(7));
        expect.same("a foul counts as a roll", 1, lane.about(2));
        expect.same("what it took", 0, lane.taken(0));
        lane.roll(20, 0, 30, true);
        expect.same("a second foul ends the frame", 1, lane.about(0));
        expect.same("a new rack then", 10, lane.about(7));
        PinDeck told = new PinDeck();
        told.touch(0, 3);
        expect.same("a foul takes nothing", 0, told.roll(0, 0, 30, true));
        expect.same("the pin is told as ahead of it, and drops", 1, told.about(5));
        PinDeck end = aheadOfLast();
        end.touch(0, 3);
        end.roll(16, 0, 30, true);
        pins("a foul at the end", end, 3, 0, 0, 0, 0, 0, 0, 0, 0, 0);
        expect.same("its shift", 0, end.pin(0, 1));
        expect.same("told at the end", 1, end.pin(0, 3));
    }

    private static void newRacks() {
        PinDeck strike = Expect.after(10);
        expect.same("told behind a strike", 10, strike.about(7));
        expect.same("the frame behind a strike", 1, strike.about(0));
        PinDeck last = Expect.after(new int[18]);
        Expect.take(last, 10);
        expect.same("told in the frame 9 behind a strike", 10, last.about(7));
        expect.same("not fallen then", 10, last.about(8));
        Expect.take(last, 10);
        expect.same("told behind a second one", 10, last.about(7));
        last.undo();
        while (last.about(7) != 10 || last.pin(0, 0) != 0) {
            last.undo();
        }
        Expect.take(last, 3);
        expect.same("told behind a strike and 3", 7, last.about(7));
        expect.same("not fallen behind a strike and 3", 7, last.about(8));
        Expect.take(last, 7);
        expect.same("told at the end", 0, last.about(7));
        expect.same("nothing is done behind the last roll", 7, last.about(8));
        PinDeck spare = Expect.after(new int[18]);
        Expect.take(spare, 4);
        Expect.take(spare, 6);
        expect.same("told in the frame 9 behind a spare", 10, spare.about(7));
        expect.same("not fallen behind a spare", 10, spare.about(8));
    }

    private static void rollThrows() {
        PinDeck lane = new PinDeck();
        expect.badArgument("board -1", () -> lane.roll(-1, 0, 30, false));
        expect.badArgument("board 41", () -> lane.roll(41, 0, 30, false));
        expect.badArgument("drift -3", () -> lane.roll(20, -3, 30, false));
        expect.badArgument("drift 3", () -> lane.roll(20, 3, 30, false));
        expect.badArgument("speed 0", () -> lane.roll(20, 0, 0, false));
        expect.badArgument("speed 31", () -> lane.roll(20, 0, 31, true));
        expect.badState("undo behind them", lane::undo);
        PinDeck over = Expect.after(new int[20]);
        String before = Expect.seen(over);
        expect.badState("roll at the end", () -> over.roll(20, 0, 30, false));
        expect.badState("a ball to be stopped at the end", () -> over.roll(20, 0, 1, false));
        expect.badArgument("a wrong roll at the end", () -> over.roll(20, 0, 31, false));
        expect.holds("nothing is changed", before.equals(Expect.seen(over)));
    }

    private static void touch() {
        PinDeck lane = new PinDeck();
        expect.same("touch(2, 3)", 0, lane.touch(2, 3));
        expect.same("touch(2, 1)", 3, lane.touch(2, 1));
        expect.same("touch(2, 1) again", 1, lane.touch(2, 1));
        expect.same("pin(2, 0)", 1, lane.pin(2, 0));
        expect.same("pin(2, 1)", 0, lane.pin(2, 1));
        expect.same("told", 10, lane.about(7));
        lane.roll(20, 0, 30, false);
        expect.badState("touch of a fallen pin", () -> lane.touch(0, 0));
        expect.badArgument("a wrong touch of a fallen pin", () -> lane.touch(0, 4));
        expect.badArgument("touch(6, -1)", () -> lane.touch(6, -1));
        expect.badArgument("touch(6, 4)", () -> lane.touch(6, 4));
        expect.outOfBounds("touch(-1, 0)", () -> lane.touch(-1, 0));
        expect.outOfBounds("touch(10, 0)", () -> lane.touch(10, 0));
        expect.outOfBounds("touch(10, 4)", () -> lane.touch(10, 4));
        PinDeck over = Expect.after(new int[20]);
        expect.same("touch at the end", 0, over.touch(9, 2));
        expect.same("pin(9, 0) at the end", 2, over.pin(9, 0));
    }

    private static void set() {
        PinDeck lane = new PinDeck();
        int[][] due = {{0, 3, 18}, {0, 90, 3}, {1, 0, 2}, {1, 3, 0}, {2, 0, 1}, {2, 3, 0}, {2, 3, 3}};
        for (int[] row : due) {
            expect.same("set(" + row[0] + ", " + row[1] + ")", row[2], lane.set(row[0], row[1]));
            expect.same("setting(" + row[0] + ")", row[1], lane.setting(row[0]));
        }
        int[][] wrong = {{0, 2}, {0, 91}, {0, -3}, {1, -1}, {1, 4}, {2, -1}, {2, 4}, {-1, 3}, {3, 3},
            {Integer.MIN_VALUE, 3}, {0, Integer.MAX_VALUE}};
        for (int[] row : wrong) {
            expect.badArgument("set(" + row[0] + ", " + row[1] + ")", () -> lane.set(row[0], row[1]));
        }
        expect.same("setting 0 behind them", 90, lane.setting(0));
        lane.touch(0, 3);
        lane.set(1, 1);
        expect.same("set tells no pins", 10, lane.about(7));
    }

    /** A lane behind so many actions of all kinds. */
    private static PinDeck acted(int actions) {
        PinDeck lane = new PinDeck();
        for (int i = 0; i < actions; i++) {
            switch (i % 5) {
                case 0: lane.roll(20 + i, 0, 30, i == 5); break;
                case 1: lane.touch(6, i % 4); break;
                case 2: lane.set(i % 3, 3); break;
                case 3: lane.roll(20, 0, 1, false); break;
                default: lane.begin(); break;
            }
        }
        return lane;
    }

    private static void undo() {
        for (int undone = 1; undone <= 14; undone++) {
            PinDeck lane = acted(17);
            for (int i = 1; i <= undone; i++) {
                expect.same("undo " + i + " behind 17 actions", 14 - i, lane.undo());
            }
            expect.equal("the states behind " + undone + " of them", Expect.seen(acted(17 - undone)),
                    Expect.seen(lane));
        }
        PinDeck lane = acted(17);
        for (int i = 0; i < 14; i++) {
            lane.undo();
        }
        expect.badState("undo with 14 states taken back", lane::undo);
        expect.equal("the states behind it", Expect.seen(acted(3)), Expect.seen(lane));
        lane.set(1, 2);
        expect.same("undo of another action", 0, lane.undo());
        expect.badState("undo again", lane::undo);
        PinDeck drop = new PinDeck();
        drop.touch(0, 2);
        String before = Expect.seen(drop);
        drop.roll(0, 0, 30, false);
        expect.same("dropped", 1, drop.about(5));
        expect.same("undo of a drop", 1, drop.undo());
        expect.holds("the state ahead of the drop", before.equals(Expect.seen(drop)));
    }

    private static void actions() {
        PinDeck lane = new PinDeck();
        lane.set(0, 18);
        lane.touch(0, 0);
        lane.begin();
        lane.save(0);
        lane.would(20, 0, 0);
        lane.bestBoard(0);
        lane.slowest();
        lane.goesOn(20, 0);
        lane.drops();
        lane.runScript(1, 50000);
        lane.simulate(7, 60);
        lane.append('P');
        lane.errorPosition();
        lane.clearText();
        expect.badArgument("a wrong set", () -> lane.set(0, 2));
        expect.same("actions that change nothing count, and no others", 2, lane.undo());
        expect.same("undo is none", 1, lane.undo());
    }

    public static void main(String[] args) {
        begin();
        rollInTheMiddle();
        rollWithDrift();
        rollPushes();
        rollGrazes();
        newRackHasNoShifts();
        rollAtReach();
        sensors();
        rake();
        foul();
        newRacks();
        rollThrows();
        touch();
        set();
        undo();
        actions();
        expect.end();
    }
}
