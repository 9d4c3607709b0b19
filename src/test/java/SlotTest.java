/** Promises 23 and 24: save, restore. */
public final class SlotTest {
    private static final Expect expect = new Expect("SlotTest");

    private static void saveAndRestore() {
        PinDeck lane = Expect.after(3, 4, 5);
        lane.set(1, 0);
        lane.touch(9, 2);
        lane.roll(20, 0, 1, false);
        String first = Expect.seen(lane);
        expect.same("save(0)", 3, lane.save(0));
        lane.roll(22, 1, 30, true);
        lane.set(0, 40);
        String second = Expect.seen(lane);
        expect.same("save(1)", 4, lane.save(1));
        lane.begin();
        expect.same("restore(0)", 3, lane.restore(0));
        expect.holds("the state of slot 0", first.equals(Expect.seen(lane)));
        expect.badState("undo behind restore", lane::undo);
        lane.roll(25, 0, 30, false);
        expect.same("restore is no action", 0, lane.undo());
        lane.begin();
        lane.touch(4, 3);
        expect.same("restore(1)", 4, lane.restore(1));
        expect.holds("the state of slot 1", second.equals(Expect.seen(lane)));
    }

    private static void saveAgain() {
        PinDeck lane = Expect.after(3, 4, 5);
        lane.save(0);
        Expect.take(lane, 2);
        lane.save(1);
        String second = Expect.seen(lane);
        lane.begin();
        lane.touch(4, 3);
        expect.same("restore(1)", 4, lane.restore(1));
        lane.begin();
        expect.same("the slot keeps it", 4, lane.restore(1));
        expect.holds("the state of slot 1", second.equals(Expect.seen(lane)));
        lane.begin();
        expect.same("save(1) over it", 0, lane.save(1));
        expect.same("undo of begin behind save", 0, lane.undo());
        expect.same("restore(1) of the other", 0, lane.restore(1));
        expect.same("slot 0 has what it had", 3, lane.restore(0));
    }

    /** A game at its end, restored where a game with fewer rolls has ended. */
    private static void restoreTheEnd() {
        PinDeck lane = Expect.after(new int[20]);
        lane.save(0);
        lane.begin();
        for (int i = 0; i < 12; i++) {
            Expect.take(lane, 10);
        }
        expect.same("the points of the other game", 300, lane.about(3));
        expect.same("restore(0) of the end", 20, lane.restore(0));
        expect.same("its end", 1, lane.about(9));
        expect.same("its points", 0, lane.about(3));
        for (int f = 0; f < 10; f++) {
            expect.same("the rolls of its frame " + f, 2, lane.frame(f, 0));
        }
    }

    private static void throwing() {
        PinDeck lane = new PinDeck();
        lane.roll(20, 0, 30, false);
        expect.outOfBounds("save(-1)", () -> lane.save(-1));
        expect.outOfBounds("save(2)", () -> lane.save(2));
        expect.outOfBounds("save(most)", () -> lane.save(Integer.MAX_VALUE));
        expect.outOfBounds("restore(-1)", () -> lane.restore(-1));
        expect.outOfBounds("restore(2)", () -> lane.restore(2));
        lane.save(1);
        expect.badState("restore(0) of nothing", () -> lane.restore(0));
        expect.same("undo behind restore that throws", 0, lane.undo());
        expect.same("restore(1)", 1, lane.restore(1));
        lane.append('P');
        lane.load();
        expect.badState("restore(1) behind load", () -> lane.restore(1));
        lane.save(1);
        expect.same("restore(1) behind a new save", 0, lane.restore(1));
    }

    public static void main(String[] args) {
        saveAndRestore();
        saveAgain();
        restoreTheEnd();
        throwing();
        expect.end();
    }
}
