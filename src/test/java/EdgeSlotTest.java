/** The boundary cases of the promises 23 and 24, save and restore: a test for each sentence. */
public final class EdgeSlotTest {
    private static final Expect expect = new Expect("EdgeSlotTest");
    private static final int[] WRONG = {-1, 2, Integer.MIN_VALUE, Integer.MAX_VALUE};
    private static final int MOST_REMEMBERED = 14;

    // ---- promise 23

    private static void saveSlots() {
        PinDeck lane = new PinDeck();
        expect.same("save(0)", 0, lane.save(0));
        expect.same("save(1)", 0, lane.save(1));
        for (int slot : WRONG) {
            expect.outOfBounds("save(" + slot + ")", () -> lane.save(slot));
        }
    }

    private static void saveAnswers() {
        expect.same("save of a new object", 0, new PinDeck().save(0));
        expect.same("save behind three rolls", 3, Expect.after(3, 4, 10).save(1));
        expect.same("save of 12 strikes", 12, Expect.allStrikes().save(0));
        PinDeck most = Expect.lastFrame(0, 10, 0);
        expect.same("save of the most rolls", 21, most.save(1));
        PinDeck stopped = new PinDeck();
        stopped.roll(20, 0, 1, false);
        expect.same("save behind a ball that is stopped", 0, stopped.save(0));
        most.begin();
        expect.same("save behind begin", 0, most.save(0));
    }

    private static void saveIsNoAction() {
        PinDeck lane = Expect.after(3);
        String before = Expect.seen(lane);
        lane.save(0);
        lane.save(1);
        lane.save(0);
        expect.equal("the states", before, Expect.seen(lane));
        expect.same("undo", 3, lane.undo());
    }

    /** What is stored stays, whatever is done then, and a later save takes its place. */
    private static void savePresentState() {
        PinDeck lane = Expect.after(3);
        String three = Expect.seen(lane);
        lane.save(0);
        Expect.take(lane, 4);
        lane.set(0, 90);
        lane.undo();
        lane.undo();
        lane.begin();
        lane.restore(0);
        expect.equal("the states stored", three, Expect.seen(lane));
        lane.touch(9, 3);
        String touched = Expect.seen(lane);
        lane.save(0);
        lane.begin();
        lane.restore(0);
        expect.equal("the states stored in their place", touched, Expect.seen(lane));
    }

    private static void slotsApart() {
        PinDeck lane = Expect.after(3);
        lane.save(0);
        expect.badState("restore(1), nothing being in it", () -> lane.restore(1));
        Expect.take(lane, 4);
        lane.save(1);
        expect.same("restore(0)", 1, lane.restore(0));
        expect.same("restore(1)", 2, lane.restore(1));
        expect.same("restore(0) again", 1, lane.restore(0));
    }

    private static void refusedSave() {
        PinDeck lane = Expect.after(3);
        lane.save(1);
        Expect.take(lane, 4);
        String before = Expect.seen(lane);
        expect.outOfBounds("save(2)", () -> lane.save(2));
        expect.outOfBounds("save(-1)", () -> lane.save(-1));
        expect.equal("the states", before, Expect.seen(lane));
        expect.same("undo", 8, lane.undo());
        expect.badState("restore(0): nothing is in it still", () -> lane.restore(0));
        expect.same("restore(1): what was in it", 1, lane.restore(1));
    }

    // ---- promise 24

    private static void restoreSlots() {
        PinDeck lane = new PinDeck();
        lane.save(0);
        lane.save(1);
        expect.same("restore(0)", 0, lane.restore(0));
        expect.same("restore(1)", 0, lane.restore(1));
        for (int slot : WRONG) {
            expect.outOfBounds("restore(" + slot + ")", () -> lane.restore(slot));
        }
    }

    private static void restoreOfNothing() {
        PinDeck lane = new PinDeck();
        expect.badState("restore(0) of a new object", () -> lane.restore(0));
        expect.badState("restore(1) of a new object", () -> lane.restore(1));
        lane.save(1);
        expect.badState("restore(0) with the other one saved", () -> lane.restore(0));
        expect.same("restore(1)", 0, lane.restore(1));
        lane.save(0);
        expect.same("restore(0)", 0, lane.restore(0));
    }

    private static void restoreBehindLoad() {
        PinDeck lane = new PinDeck();
        lane.save(0);
        lane.save(1);
        expect.badState("load of no text", lane::load);
        expect.same("restore(0) behind a load that throws", 0, lane.restore(0));
        lane.append('P');
        lane.load();
        expect.badState("restore(0) behind load", () -> lane.restore(0));
        expect.badState("restore(1) behind load", () -> lane.restore(1));
        lane.save(0);
        expect.same("restore(0) of what has been saved since", 0, lane.restore(0));
        expect.badState("restore(1) still", () -> lane.restore(1));
    }

    private static void noSlotAndNothing() {
        PinDeck lane = new PinDeck();
        for (int slot : WRONG) {
            expect.outOfBounds("restore(" + slot + ") with nothing saved", () -> lane.restore(slot));
        }
    }

    private static void restoreAnswers() {
        PinDeck lane = Expect.lastFrame(0, 10, 0);
        lane.save(0);
        lane.begin();
        lane.save(1);
        Expect.take(lane, 3);
        expect.same("restore of the most rolls", 21, lane.restore(0));
        expect.same("its rolls", 21, lane.about(2));
        expect.same("restore of no rolls", 0, lane.restore(1));
        expect.same("its rolls", 0, lane.about(2));
    }

    private static void restoreForgets() {
        PinDeck lane = new PinDeck();
        lane.save(0);
        for (int i = 0; i <= MOST_REMEMBERED; i++) {
            lane.touch(0, i % 4);
        }
        lane.restore(0);
        expect.badState("undo behind restore", lane::undo);
        lane.touch(0, 3);
        expect.same("undo of the one action behind restore", 0, lane.undo());
        expect.badState("undo again", lane::undo);
        expect.same("its leaning", 0, lane.pin(0, 0));
    }

    private static void restoreIsNoAction() {
        PinDeck lane = Expect.after(3);
        lane.save(0);
        lane.restore(0);
        lane.restore(0);
        expect.badState("undo behind restore", lane::undo);
        expect.same("the rolls", 1, lane.about(2));
    }

    private static void slotKeeps() {
        PinDeck lane = Expect.after(3);
        String three = Expect.seen(lane);
        lane.save(1);
        for (int i = 0; i < 3; i++) {
            lane.begin();
            lane.set(1, i);
            lane.roll(20, 0, 30, true);
            expect.same("restore(1)", 1, lane.restore(1));
            expect.equal("the states", three, Expect.seen(lane));
            Expect.take(lane, 4);
        }
    }

    /** Everything comes back: a game at its end, and one that has just begun in a lane with other settings. */
    private static void restoreAll() {
        PinDeck lane = new PinDeck();
        lane.set(0, 90);
        lane.set(1, 0);
        lane.set(2, 3);
        lane.roll(16, 0, 30, false);
        lane.touch(9, 2);
        lane.save(0);
        String first = Expect.seen(lane);
        PinDeck other = Expect.allStrikes();
        other.save(0);
        String end = Expect.seen(other);
        lane.begin();
        lane.set(0, 3);
        lane.roll(20, 0, 1, false);
        lane.roll(20, 0, 30, true);
        lane.set(2, 0);
        lane.restore(0);
        expect.equal("the states of the first one", first, Expect.seen(lane));
        other.begin();
        other.roll(20, 0, 30, false);
        other.restore(0);
        expect.equal("the states of the end", end, Expect.seen(other));
        expect.badState("a roll at the end", () -> other.roll(20, 0, 30, false));
    }

    /** The end of a game with twenty rolls, restored where one with twelve has ended, and the other way about. */
    private static void restoreEnds() {
        PinDeck lane = Expect.over();
        lane.save(0);
        lane.begin();
        for (int i = 0; i < 12; i++) {
            Expect.take(lane, 10);
        }
        lane.save(1);
        expect.same("restore(0)", 20, lane.restore(0));
        expect.equal("the states of twenty rolls", Expect.seen(Expect.over()), Expect.seen(lane));
        expect.same("restore(1)", 12, lane.restore(1));
        expect.equal("the states of twelve rolls", Expect.seen(Expect.allStrikes()), Expect.seen(lane));
    }

    private static void restoreKeepsText() {
        PinDeck lane = new PinDeck();
        lane.append('P');
        lane.save(0);
        lane.append('2');
        lane.restore(0);
        expect.same("the text behind restore", 2, lane.clearText());
    }

    private static void refusedRestore() {
        PinDeck lane = Expect.after(3);
        lane.save(1);
        Expect.take(lane, 4);
        String before = Expect.seen(lane);
        expect.badState("restore(0)", () -> lane.restore(0));
        expect.outOfBounds("restore(2)", () -> lane.restore(2));
        expect.equal("the states", before, Expect.seen(lane));
        expect.same("undo", 8, lane.undo());
        expect.same("restore(1)", 1, lane.restore(1));
    }

    public static void main(String[] args) {
        expect.test(23, "Throws `IndexOutOfBoundsException` if there is no such save slot", EdgeSlotTest::saveSlots);
        expect.test(23, "Returns the rolls of the game so far.", EdgeSlotTest::saveAnswers);
        expect.test(23, "everything but the text and the save slots", EdgeSlotTest::saveIsNoAction);
        expect.test(23, "Stores the present state in a save slot.", EdgeSlotTest::savePresentState);
        expect.test(23, "a save slot is not 0 or 1", EdgeSlotTest::slotsApart);
        expect.test(23, "A call that throws an exception changes nothing.", EdgeSlotTest::refusedSave);
        expect.test(24, "Throws `IndexOutOfBoundsException` if there is no such save slot", EdgeSlotTest::restoreSlots);
        expect.test(24, "Throws `IllegalStateException` if nothing has been saved in it since the last load",
                EdgeSlotTest::restoreOfNothing);
        expect.test(24, "since the last load", EdgeSlotTest::restoreBehindLoad);
        expect.test(24, "the one that its description names first is thrown", EdgeSlotTest::noSlotAndNothing);
        expect.test(24, "Returns the rolls of the game so far then.", EdgeSlotTest::restoreAnswers);
        expect.test(24, "and forgets all remembered states", EdgeSlotTest::restoreForgets);
        expect.test(24, "load and restore are not actions.", EdgeSlotTest::restoreIsNoAction);
        expect.test(24, "The save slot keeps it.", EdgeSlotTest::slotKeeps);
        expect.test(24, "Replaces the state by the one in a save slot", EdgeSlotTest::restoreAll);
        expect.test(24, "which consists of everything but the text and the save slots", EdgeSlotTest::restoreEnds);
        expect.test(24, "everything but the text and the save slots", EdgeSlotTest::restoreKeepsText);
        expect.test(24, "A call that throws an exception changes nothing.", EdgeSlotTest::refusedRestore);
        expect.covers(23, 24);
        expect.end();
    }
}
