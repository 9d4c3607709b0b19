import java.util.ArrayList;
import java.util.List;

/** The boundary cases of the promises 11 and 13 to 15, begin, touch, set and undo: a test for each sentence. */
public final class EdgeActionTest {
    private static final Expect expect = new Expect("EdgeActionTest");
    private static final int MOST = 14;

    // ---- promise 11

    private static void beginAnswers() {
        PinDeck lane = new PinDeck();
        expect.same("begin of a new object", 0, lane.begin());
        Expect.take(lane, 10);
        Expect.take(lane, 3);
        expect.same("begin in the middle of a frame", 13 + 3, lane.begin());
        expect.same("begin again", 0, lane.begin());
        expect.same("begin at the end of the best game", 300, Expect.allStrikes().begin());
        expect.same("begin at the end of the worst game", 0, Expect.over().begin());
    }

    private static void beginNewGame() {
        PinDeck[] lanes = {new PinDeck(), Expect.after(3), Expect.after(10, 10, 4), Expect.over(),
            Expect.allStrikes()};
        for (PinDeck lane : lanes) {
            lane.begin();
            expect.equal("the states", Expect.seen(new PinDeck()), Expect.seen(lane));
        }
    }

    private static void beginNewRack() {
        PinDeck lane = new PinDeck();
        lane.roll(16, 0, 30, false);
        lane.touch(0, 3);
        expect.same("a shift ahead of begin", 1, lane.pin(0, 1));
        lane.begin();
        for (int k = 0; k < 10; k++) {
            expect.same("the leaning of " + k, 0, lane.pin(k, 0));
            expect.same("the shift of " + k, 0, lane.pin(k, 1));
            expect.same("told of " + k, 1, lane.pin(k, 3));
        }
        PinDeck dropped = Expect.allDropped();
        dropped.begin();
        expect.same("not fallen behind begin", 10, dropped.about(8));
    }

    private static void beginKeeps() {
        PinDeck lane = new PinDeck();
        lane.set(0, 90);
        lane.set(1, 3);
        lane.set(2, 0);
        lane.touch(0, 1);
        Expect.beside(lane, true);
        lane.set(0, 3);
        lane.roll(20, 0, 22, false);
        lane.begin();
        int[] due = {3, 3, 0};
        for (int what = 0; what < 3; what++) {
            expect.same("setting " + what, due[what], lane.setting(what));
        }
        expect.same("the balls stopped", 1, lane.about(4));
        expect.same("the pins dropped", 1, lane.about(5));
        expect.same("the fouls", 1, lane.about(6));
    }

    private static void beginKeepsSlotsAndText() {
        PinDeck lane = Expect.after(3, 4);
        lane.append('P');
        lane.save(1);
        lane.begin();
        expect.same("undo behind begin and 9 actions", 9, lane.undo());
        lane.begin();
        expect.same("restore(1) behind begin", 2, lane.restore(1));
        expect.same("the text behind begin", 1, lane.clearText());
    }

    // ---- promise 13

    private static void touchPins() {
        PinDeck lane = new PinDeck();
        expect.same("touch(0, 1)", 0, lane.touch(0, 1));
        expect.same("touch(9, 1)", 0, lane.touch(9, 1));
        expect.outOfBounds("touch(-1, 1)", () -> lane.touch(-1, 1));
        expect.outOfBounds("touch(10, 1)", () -> lane.touch(10, 1));
        for (int k : Expect.FAR) {
            expect.outOfBounds("touch(" + k + ", 1)", () -> lane.touch(k, 1));
        }
    }

    private static void touchLeanings() {
        PinDeck lane = new PinDeck();
        expect.same("touch(4, 0)", 0, lane.touch(4, 0));
        expect.same("touch(4, 3)", 0, lane.touch(4, 3));
        expect.badArgument("touch(4, -1)", () -> lane.touch(4, -1));
        expect.badArgument("touch(4, 4)", () -> lane.touch(4, 4));
        for (int v : Expect.FAR) {
            expect.badArgument("touch(4, " + v + ")", () -> lane.touch(4, v));
        }
        expect.same("the leaning", 3, lane.pin(4, 0));
    }

    private static void touchFallen() {
        PinDeck lane = new PinDeck();
        lane.roll(20, 0, 30, false);
        for (int v = 0; v <= 3; v++) {
            int w = v;
            expect.badState("touch(0, " + w + ")", () -> lane.touch(0, w));
        }
        expect.same("touch of a pin that has not fallen", 0, lane.touch(9, 3));
        PinDeck dropped = new PinDeck();
        dropped.touch(0, 2);
        Expect.beside(dropped, false);
        expect.badState("touch of a pin that has dropped", () -> dropped.touch(0, 0));
        expect.same("about(5)", 1, dropped.about(5));
        Expect.beside(dropped, false);
        expect.same("touch of it in a new rack", 0, dropped.touch(0, 3));
    }

    private static void touchBothWrong() {
        PinDeck lane = new PinDeck();
        lane.roll(20, 0, 30, false);
        expect.outOfBounds("no such pin, no such leaning", () -> lane.touch(10, 4));
        expect.outOfBounds("no such pin below 0, no such leaning", () -> lane.touch(-1, -1));
        expect.badArgument("a fallen pin, no such leaning", () -> lane.touch(0, 4));
        expect.badArgument("a fallen pin, a leaning below 0", () -> lane.touch(0, -1));
        expect.badState("a fallen pin", () -> lane.touch(0, 3));
    }

    private static void touchAnswers() {
        PinDeck lane = new PinDeck();
        for (int v = 0; v < 4; v++) {
            for (int w = 0; w < 4; w++) {
                lane.touch(6, v);
                expect.same("touch(6, " + w + ") behind " + v, v, lane.touch(6, w));
                expect.same("the leaning behind it", w, lane.pin(6, 0));
            }
        }
    }

    private static void touchChangesLeaningAlone() {
        PinDeck lane = new PinDeck();
        lane.roll(16, 0, 30, false);
        int[] told = new int[10];
        for (int k = 0; k < 10; k++) {
            told[k] = lane.pin(k, 3);
        }
        lane.touch(0, 3);
        expect.same("the shift", 1, lane.pin(0, 1));
        for (int k = 0; k < 10; k++) {
            expect.same("told of " + k, told[k], lane.pin(k, 3));
        }
        expect.same("the leaning of the pin 1", 4, lane.pin(1, 0));
        expect.same("the leaning of the pin 2", 0, lane.pin(2, 0));
    }

    private static void touchAtTheEnd() {
        PinDeck lane = Expect.aheadOfLast();
        lane.touch(0, 3);
        Expect.beside(lane, false);
        expect.same("touch of a pin that is not told", 3, lane.touch(0, 0));
        expect.same("it is told as behind the roll", 0, lane.pin(0, 3));
        expect.same("touch of a pin that is told", 0, lane.touch(1, 3));
        expect.same("it is told as behind the roll", 1, lane.pin(1, 3));
    }

    private static void refusedTouch() {
        PinDeck lane = new PinDeck();
        lane.touch(5, 2);
        lane.roll(20, 0, 30, false);
        String before = Expect.seen(lane);
        expect.outOfBounds("touch(10, 0)", () -> lane.touch(10, 0));
        expect.badArgument("touch(9, 4)", () -> lane.touch(9, 4));
        expect.badState("touch(0, 0)", () -> lane.touch(0, 0));
        expect.equal("the states", before, Expect.seen(lane));
        expect.same("undo", 1, lane.undo());
    }

    // ---- promise 14

    private static void setWhat() {
        PinDeck lane = new PinDeck();
        expect.same("set(0, 3)", 18, lane.set(0, 3));
        expect.same("set(2, 3)", 1, lane.set(2, 3));
        expect.badArgument("set(-1, 3)", () -> lane.set(-1, 3));
        expect.badArgument("set(3, 3)", () -> lane.set(3, 3));
        for (int what : Expect.FAR) {
            expect.badArgument("set(" + what + ", 3)", () -> lane.set(what, 3));
        }
    }

    private static void range(int what, int low, int high) {
        PinDeck lane = new PinDeck();
        int first = lane.setting(what);
        expect.same("set(" + what + ", " + low + ")", first, lane.set(what, low));
        expect.same("set(" + what + ", " + high + ")", low, lane.set(what, high));
        expect.badArgument("set(" + what + ", " + (low - 1) + ")", () -> lane.set(what, low - 1));
        expect.badArgument("set(" + what + ", " + (high + 1) + ")", () -> lane.set(what, high + 1));
        for (int v : Expect.FAR) {
            expect.badArgument("set(" + what + ", " + v + ")", () -> lane.set(what, v));
        }
        expect.same("setting(" + what + ")", high, lane.setting(what));
        for (int v = low; v <= high; v++) {
            lane.set(what, v);
            expect.same("setting(" + what + ") in its range", v, lane.setting(what));
        }
    }

    private static void rangeOfWait() {
        range(0, 3, 90);
    }

    private static void rangeOfTold() {
        range(1, 0, 3);
    }

    private static void rangeOfGrips() {
        range(2, 0, 3);
    }

    private static void setAnswers() {
        PinDeck lane = new PinDeck();
        int[] first = {18, 2, 1};
        for (int what = 0; what < 3; what++) {
            expect.same("set(" + what + ", 3)", first[what], lane.set(what, 3));
            expect.same("set(" + what + ", 3) again", 3, lane.set(what, 3));
        }
        lane.set(0, 90);
        expect.same("set(0, 3) behind 90", 90, lane.set(0, 3));
        lane.set(1, 0);
        expect.same("set(1, 3) behind 0", 0, lane.set(1, 3));
    }

    private static void setBothWrong() {
        PinDeck lane = new PinDeck();
        expect.badArgument("set(-1, -1)", () -> lane.set(-1, -1));
        expect.badArgument("set(3, 91)", () -> lane.set(3, 91));
    }

    private static void setAtTheEnd() {
        PinDeck lane = Expect.over();
        expect.same("set(1, 0) at the end", 2, lane.set(1, 0));
        expect.same("setting(1)", 0, lane.setting(1));
        expect.same("told still", 10, lane.about(7));
    }

    private static void refusedSet() {
        PinDeck lane = new PinDeck();
        lane.set(0, 4);
        String before = Expect.seen(lane);
        expect.badArgument("set(0, 91)", () -> lane.set(0, 91));
        expect.badArgument("set(1, 4)", () -> lane.set(1, 4));
        expect.badArgument("set(3, 3)", () -> lane.set(3, 3));
        expect.equal("the states", before, Expect.seen(lane));
        expect.same("undo", 0, lane.undo());
    }

    // ---- promise 15

    private static void undoOfNone() {
        PinDeck lane = new PinDeck();
        expect.badState("undo of a new object", lane::undo);
        lane.touch(0, 3);
        expect.same("undo of one action", 0, lane.undo());
        expect.badState("undo again", lane::undo);
        expect.badState("undo once more", lane::undo);
        expect.same("the leaning", 0, lane.pin(0, 0));
    }

    private static void refusedUndo() {
        PinDeck lane = new PinDeck();
        for (int i = 0; i <= MOST; i++) {
            lane.touch(0, i % 4);
        }
        for (int i = 0; i < MOST; i++) {
            lane.undo();
        }
        String before = Expect.seen(lane);
        expect.badState("undo behind 14 of them", lane::undo);
        expect.equal("the states", before, Expect.seen(lane));
        lane.touch(1, 2);
        expect.same("undo of the one action behind it", 0, lane.undo());
        expect.equal("the states again", before, Expect.seen(lane));
    }

    /** Does so many actions, and then takes back all that are remembered. */
    private static void undoes(PinDeck lane, int actions) {
        List<Integer> settings = new ArrayList<>();
        for (int i = 0; i < actions; i++) {
            settings.add(lane.setting(0));
            lane.set(0, 3 + i);
        }
        int remembered = Math.min(actions, MOST);
        for (int i = 1; i <= remembered; i++) {
            expect.same("undo " + i + " behind " + actions + " actions", remembered - i, lane.undo());
            expect.same("the setting behind undo " + i, settings.get(actions - i), lane.setting(0));
        }
        expect.badState("another undo behind " + actions + " actions", lane::undo);
    }

    private static void undoMost() {
        int[] numbers = {1, 2, 13, 14, 15, 16, 27, 28, 29, 87};
        for (int actions : numbers) {
            undoes(new PinDeck(), actions);
        }
    }

    private static void undoMostAgain() {
        PinDeck lane = new PinDeck();
        for (int i = 0; i < 7; i++) {
            undoes(lane, 5 + i * 2);
        }
        PinDeck half = new PinDeck();
        for (int i = 0; i < 20; i++) {
            half.set(0, 10 + i);
        }
        for (int i = 0; i < 7; i++) {
            half.undo();
        }
        for (int i = 0; i < 8; i++) {
            half.set(0, 50 + i);
        }
        expect.same("undo behind 14 and one more, half of them new", MOST - 1, half.undo());
        for (int i = 0; i < 7; i++) {
            half.undo();
        }
        expect.same("the setting behind the new ones", 22, half.setting(0));
        expect.same("undo of an older one", MOST - 9, half.undo());
        expect.same("its setting", 21, half.setting(0));
    }

    private static void actionsThatChangeNothing() {
        PinDeck lane = new PinDeck();
        lane.begin();
        lane.touch(0, 0);
        lane.set(0, 18);
        lane.roll(0, 0, 1, false);
        expect.same("undo of a ball that is stopped", 3, lane.undo());
        expect.same("undo of set", 2, lane.undo());
        expect.same("undo of touch", 1, lane.undo());
        expect.same("undo of begin", 0, lane.undo());
        expect.badState("undo of no more", lane::undo);
    }

    private static void undoIsNoAction() {
        PinDeck lane = new PinDeck();
        lane.touch(0, 1);
        lane.touch(0, 2);
        lane.touch(0, 3);
        expect.same("undo", 2, lane.undo());
        expect.same("its leaning", 2, lane.pin(0, 0));
        expect.same("undo again", 1, lane.undo());
        expect.same("its leaning then", 1, lane.pin(0, 0));
        expect.same("undo once more", 0, lane.undo());
        expect.same("its leaning at last", 0, lane.pin(0, 0));
    }

    private static void otherCallsAreNoActions() {
        PinDeck lane = Expect.after(3);
        lane.append('P');
        lane.errorPosition();
        lane.clearText();
        Expect.seen(lane);
        lane.would(20, 0, 0);
        lane.bestBoard(0);
        lane.slowest();
        lane.goesOn(20, 0);
        lane.drops();
        lane.runScript(3, 120205000030300L);
        lane.simulate(1, 60);
        lane.save(0);
        expect.same("undo behind calls that are no actions", 3, lane.undo());
        expect.same("the rolls", 0, lane.about(2));
    }

    private static void loadAndRestoreAreNoActions() {
        PinDeck lane = new PinDeck();
        lane.append('P');
        lane.load();
        expect.badState("undo behind load", lane::undo);
        lane.save(0);
        lane.restore(0);
        expect.badState("undo behind restore", lane::undo);
        lane.begin();
        expect.same("undo behind both and an action", 0, lane.undo());
    }

    private static void refusedCallsAreNoActions() {
        PinDeck lane = new PinDeck();
        lane.roll(20, 0, 30, false);
        expect.badArgument("roll", () -> lane.roll(41, 0, 30, false));
        expect.badState("touch", () -> lane.touch(0, 0));
        expect.outOfBounds("touch of no pin", () -> lane.touch(10, 0));
        expect.badArgument("set", () -> lane.set(0, 2));
        expect.badState("load", lane::load);
        expect.badState("restore", () -> lane.restore(0));
        expect.outOfBounds("save", () -> lane.save(2));
        expect.same("undo of the roll", 0, lane.undo());
        PinDeck over = Expect.over();
        expect.badState("roll at the end", () -> over.roll(20, 0, 30, false));
        expect.same("undo of the last roll", MOST - 1, over.undo());
        expect.same("the rolls", 19, over.about(2));
    }

    /** A lane behind so many of seven actions, of which each makes something in the state another one. */
    private static PinDeck acted(int actions) {
        PinDeck lane = new PinDeck();
        lane.set(2, 2);
        lane.touch(9, 3);
        lane.touch(8, 2);
        for (int i = 0; i < actions; i++) {
            switch (i) {
                case 0: lane.roll(16, 0, 30, false); break;
                case 1: lane.roll(24, 0, 30, true); break;
                case 2: lane.roll(20, 0, 1, false); break;
                case 3: lane.set(1, 0); break;
                case 4: lane.touch(3, 3); break;
                case 5: lane.roll(20, 0, 30, false); break;
                default: lane.begin(); break;
            }
        }
        return lane;
    }

    private static void undoBringsAllBack() {
        for (int actions = 1; actions <= 7; actions++) {
            PinDeck lane = acted(actions);
            String due = Expect.seen(acted(actions - 1));
            expect.holds("the action " + actions + " changes something", !due.equals(Expect.seen(lane)));
            lane.undo();
            expect.equal("the states behind undo of the action " + actions, due, Expect.seen(lane));
            PinDeck all = acted(7);
            for (int i = 7; i >= actions; i--) {
                all.undo();
            }
            expect.equal("the states behind undo of the actions from " + actions, due, Expect.seen(all));
        }
    }

    private static void undoKeepsTextAndSlots() {
        PinDeck lane = Expect.after(3);
        lane.begin();
        lane.append('P');
        lane.save(0);
        lane.undo();
        expect.same("restore(0) behind undo", 0, lane.restore(0));
        expect.same("the text behind undo", 1, lane.clearText());
    }

    private static void undoOfTheEnd() {
        PinDeck lane = Expect.allStrikes();
        lane.undo();
        expect.same("over behind undo", 0, lane.about(9));
        expect.same("the rolls", 11, lane.about(2));
        expect.same("the points", 290, lane.about(3));
        expect.same("the last roll again", 10, Expect.beside(lane, false));
        expect.same("over again", 1, lane.about(9));
        expect.same("the points again", 300, lane.about(3));
        lane.begin();
        lane.undo();
        expect.same("the points behind begin and undo", 300, lane.about(3));
    }

    private static void testBeginAndTouch() {
        expect.test(11, "Returns the points that the former one had.", EdgeActionTest::beginAnswers);
        expect.test(11, "Begins a new game", EdgeActionTest::beginNewGame);
        expect.test(11, "with a new rack", EdgeActionTest::beginNewRack);
        expect.test(11, "the settings stay, and so do the numbers of balls stopped, pins dropped and fouls",
                EdgeActionTest::beginKeeps);
        expect.test(11, "everything but the text and the save slots", EdgeActionTest::beginKeepsSlotsAndText);
        expect.test(13, "Throws `IndexOutOfBoundsException` if there is no such pin", EdgeActionTest::touchPins);
        expect.test(13, "Throws `IllegalArgumentException` if v is out of range", EdgeActionTest::touchLeanings);
        expect.test(13, "Throws `IllegalStateException` if it has fallen", EdgeActionTest::touchFallen);
        expect.test(13, "the one that its description names first is thrown", EdgeActionTest::touchBothWrong);
        expect.test(13, "Returns its previous leaning.", EdgeActionTest::touchAnswers);
        expect.test(13, "Somebody touches a pin, so that it leans otherwise.",
                EdgeActionTest::touchChangesLeaningAlone);
        expect.test(13, "Behind a roll, a pin is told as standing", EdgeActionTest::touchAtTheEnd);
        expect.test(13, "A call that throws an exception changes nothing.", EdgeActionTest::refusedTouch);
    }

    private static void testSet() {
        expect.test(14, "Throws `IllegalArgumentException` if what or v is out of range", EdgeActionTest::setWhat);
        expect.test(14, "how many ticks the machine waits, 3 to 90", EdgeActionTest::rangeOfWait);
        expect.test(14, "the leaning that is told as standing, 0 to 3", EdgeActionTest::rangeOfTold);
        expect.test(14, "the leaning that grips bear, 0 to 3", EdgeActionTest::rangeOfGrips);
        expect.test(14, "Returns the previous one.", EdgeActionTest::setAnswers);
        expect.test(14, "IllegalArgumentException means that another argument is out of its range.",
                EdgeActionTest::setBothWrong);
        expect.test(14, "Changes a setting.", EdgeActionTest::setAtTheEnd);
        expect.test(14, "A call that throws an exception changes nothing.", EdgeActionTest::refusedSet);
    }

    private static void testUndo() {
        expect.test(15, "Throws `IllegalStateException` if none is remembered", EdgeActionTest::undoOfNone);
        expect.test(15, "A call that throws an exception changes nothing.", EdgeActionTest::refusedUndo);
        expect.test(15, "At most 14 states are remembered", EdgeActionTest::undoMost);
        expect.test(15, "when one more is remembered, the oldest one is forgotten", EdgeActionTest::undoMostAgain);
        expect.test(15, "is an action, also if nothing becomes different", EdgeActionTest::actionsThatChangeNothing);
        expect.test(15, "(undo is none)", EdgeActionTest::undoIsNoAction);
        expect.test(15, "The methods in the section \"actions\" change the state, which consists of",
                EdgeActionTest::otherCallsAreNoActions);
        expect.test(15, "load and restore are not actions.", EdgeActionTest::loadAndRestoreAreNoActions);
        expect.test(15, "Each call of one of them that does not throw an exception is an action",
                EdgeActionTest::refusedCallsAreNoActions);
        expect.test(15, "Before each action, the state is remembered.", EdgeActionTest::undoBringsAllBack);
        expect.test(15, "everything but the text and the save slots", EdgeActionTest::undoKeepsTextAndSlots);
        expect.test(15, "Takes back the last action that is remembered.", EdgeActionTest::undoOfTheEnd);
    }

    public static void main(String[] args) {
        testBeginAndTouch();
        testSet();
        testUndo();
        expect.covers(11, 11);
        expect.covers(13, 15);
        expect.end();
    }
}
