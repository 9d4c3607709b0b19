/** Promises 1 and 6 to 10: a new object, about, pin, frame, taken, setting. */
public final class ViewTest {
    private static final Expect expect = new Expect("ViewTest");

    private static void newObject() {
        PinDeck lane = new PinDeck();
        int[] about = {0, 0, 0, 0, 0, 0, 0, 10, 10, 0};
        for (int what = 0; what < 10; what++) {
            expect.same("about(" + what + ") of a new object", about[what], lane.about(what));
        }
        int[] boards = {20, 17, 23, 14, 20, 26, 11, 17, 23, 29};
        for (int k = 0; k < 10; k++) {
            expect.same("the leaning of " + k, 0, lane.pin(k, 0));
            expect.same("the shift of " + k, 0, lane.pin(k, 1));
            expect.same("the board of " + k, boards[k], lane.pin(k, 2));
            expect.same("told of " + k, 1, lane.pin(k, 3));
            for (int what = 0; what < 3; what++) {
                expect.same("frame(" + k + ", " + what + ")", 0, lane.frame(k, what));
            }
        }
        expect.same("setting 0", 18, lane.setting(0));
        expect.same("setting 1", 2, lane.setting(1));
        expect.same("setting 2", 1, lane.setting(2));
        expect.badState("undo of a new object", lane::undo);
        expect.badState("restore(0) of a new object", () -> lane.restore(0));
        expect.badState("restore(1) of a new object", () -> lane.restore(1));
        expect.same("the text of a new object", 0, lane.clearText());
        expect.same("NONE", -1, PinDeck.NONE);
    }

    private static void about() {
        PinDeck lane = new PinDeck();
        lane.roll(20, 0, 30, false);
        lane.roll(20, 0, 4, false);
        int[] first = {0, 1, 1, 6, 1, 2, 0, 2, 2, 0};
        for (int what = 0; what < 10; what++) {
            expect.same("about(" + what + ") behind a roll", first[what], lane.about(what));
        }
        lane.roll(0, 0, 30, true);
        int[] second = {1, 0, 2, 6, 1, 2, 1, 10, 10, 0};
        for (int what = 0; what < 10; what++) {
            expect.same("about(" + what + ") behind a frame", second[what], lane.about(what));
        }
        expect.badArgument("about(-1)", () -> lane.about(-1));
        expect.badArgument("about(10)", () -> lane.about(10));
        expect.badArgument("about(most)", () -> lane.about(Integer.MAX_VALUE));
    }

    private static void aboutTheEnd() {
        PinDeck lane = Expect.after(10, 10, 10, 10, 10, 10, 10, 10, 10, 10, 10);
        expect.same("the frame ahead of the end", 9, lane.about(0));
        expect.same("its rolls ahead of the end", 2, lane.about(1));
        expect.same("over ahead of the end", 0, lane.about(9));
        expect.same("the last strike", 10, Expect.take(lane, 10));
        int[] about = {10, 0, 12, 300, 0, 0, 0, 0, 10, 1};
        for (int what = 0; what < 10; what++) {
            expect.same("about(" + what + ") at the end", about[what], lane.about(what));
        }
    }

    /** Pins told as standing, and pins that have not fallen, are not the same behind the last roll. */
    private static void told() {
        PinDeck lane = Expect.after(0, 0, 0, 0, 0, 0, 0, 0, 0, 0, 0, 0, 0, 0, 0, 0, 0, 0, 0);
        lane.touch(4, 3);
        lane.touch(5, 2);
        lane.roll(0, 0, 30, false);
        expect.same("told at the end", 9, lane.about(7));
        expect.same("not fallen at the end", 10, lane.about(8));
        expect.same("pin(4, 0)", 3, lane.pin(4, 0));
        expect.same("pin(4, 3)", 0, lane.pin(4, 3));
        expect.same("pin(5, 0)", 2, lane.pin(5, 0));
        expect.same("pin(5, 3)", 1, lane.pin(5, 3));
    }

    private static void pin() {
        PinDeck lane = new PinDeck();
        lane.roll(24, 0, 30, false);
        int[][] due = {{0, -1, 19, 1}, {0, 0, 17, 1}, {4, 0, 23, 0}, {0, 0, 14, 1}, {4, 0, 20, 0}, {4, 0, 26, 0},
            {0, 0, 11, 1}, {0, 0, 17, 1}, {4, 0, 23, 0}, {4, 0, 29, 0}};
        for (int k = 0; k < 10; k++) {
            for (int what = 0; what < 4; what++) {
                expect.same("pin(" + k + ", " + what + ")", due[k][what], lane.pin(k, what));
            }
        }
        expect.outOfBounds("pin(-1, 0)", () -> lane.pin(-1, 0));
        expect.outOfBounds("pin(10, 0)", () -> lane.pin(10, 0));
        expect.outOfBounds("pin(10, 9)", () -> lane.pin(10, 9));
        expect.badArgument("pin(0, -1)", () -> lane.pin(0, -1));
        expect.badArgument("pin(9, 4)", () -> lane.pin(9, 4));
    }

    private static void frame() {
        PinDeck lane = Expect.after(10, 3, 7, 4, 2, 10, 10, 9);
        int[][] due = {{1, 20, 1}, {2, 14, 2}, {2, 6, 0}, {1, 29, 1}, {1, 19, 1}, {1, 9, 0}, {0, 0, 0}, {0, 0, 0},
            {0, 0, 0}, {0, 0, 0}};
        for (int f = 0; f < 10; f++) {
            for (int what = 0; what < 3; what++) {
                expect.same("frame(" + f + ", " + what + ")", due[f][what], lane.frame(f, what));
            }
        }
        expect.same("the points of all", 97, lane.about(3));
        expect.outOfBounds("frame(-1, 0)", () -> lane.frame(-1, 0));
        expect.outOfBounds("frame(10, 0)", () -> lane.frame(10, 0));
        expect.outOfBounds("frame(10, 3)", () -> lane.frame(10, 3));
        expect.badArgument("frame(0, -1)", () -> lane.frame(0, -1));
        expect.badArgument("frame(9, 3)", () -> lane.frame(9, 3));
    }

    /** The rolls of the frame 9, behind nine frames of nothing; then its rolls, points and mark, and if it is over. */
    private static void lastFrame(int[] takes, int points, int mark, int over) {
        PinDeck lane = Expect.after(new int[18]);
        for (int n : takes) {
            expect.same("a roll of the frame 9", n, Expect.take(lane, n));
        }
        String name = "the frame 9 with " + java.util.Arrays.toString(takes);
        expect.same(name + ": rolls", takes.length, lane.frame(9, 0));
        expect.same(name + ": points", points, lane.frame(9, 1));
        expect.same(name + ": mark", mark, lane.frame(9, 2));
        expect.same(name + ": over", over, lane.about(9));
        expect.same(name + ": all points", points, lane.about(3));
        expect.same(name + ": frame", over == 1 ? 10 : 9, lane.about(0));
        expect.same(name + ": its rolls so far", over == 1 ? 0 : takes.length, lane.about(1));
    }

    private static void lastFrames() {
        lastFrame(new int[] {}, 0, 0, 0);
        lastFrame(new int[] {4}, 4, 0, 0);
        lastFrame(new int[] {4, 5}, 9, 0, 1);
        lastFrame(new int[] {4, 6}, 10, 2, 0);
        lastFrame(new int[] {4, 6, 7}, 17, 2, 1);
        lastFrame(new int[] {4, 6, 10}, 20, 2, 1);
        lastFrame(new int[] {0, 10}, 10, 2, 0);
        lastFrame(new int[] {0, 10, 10}, 20, 2, 1);
        lastFrame(new int[] {10}, 10, 1, 0);
        lastFrame(new int[] {10, 3}, 13, 1, 0);
        lastFrame(new int[] {10, 3, 7}, 20, 1, 1);
        lastFrame(new int[] {10, 0, 10}, 20, 1, 1);
        lastFrame(new int[] {10, 10}, 20, 1, 0);
        lastFrame(new int[] {10, 10, 10}, 30, 1, 1);
        lastFrame(new int[] {10, 10, 2}, 22, 1, 1);
    }

    private static void spareBehindNothing() {
        PinDeck lane = Expect.after(0, 10, 10, 5, 1);
        expect.same("frame(0, 2) with 0 and 10", 2, lane.frame(0, 2));
        expect.same("frame(0, 1) with 0 and 10", 20, lane.frame(0, 1));
        expect.same("frame(1, 1)", 16, lane.frame(1, 1));
        expect.same("frame(2, 1)", 6, lane.frame(2, 1));
    }

    private static void frameEight() {
        int[] takes = new int[16];
        PinDeck lane = Expect.after(takes);
        Expect.take(lane, 10);
        Expect.take(lane, 10);
        Expect.take(lane, 4);
        expect.same("a strike of the frame 8", 24, lane.frame(8, 1));
        Expect.take(lane, 6);
        expect.same("the frame 8 then", 24, lane.frame(8, 1));
        expect.same("the frame 9 then", 20, lane.frame(9, 1));
    }

    private static void taken() {
        PinDeck lane = Expect.after(10, 3, 7, 4);
        int[] due = {10, 3, 7, 4};
        for (int i = 0; i < 4; i++) {
            expect.same("taken(" + i + ")", due[i], lane.taken(i));
        }
        expect.outOfBounds("taken(-1)", () -> lane.taken(-1));
        expect.outOfBounds("taken(4)", () -> lane.taken(4));
        expect.outOfBounds("taken(most)", () -> lane.taken(Integer.MAX_VALUE));
        expect.outOfBounds("taken(0) of a new object", () -> new PinDeck().taken(0));
        PinDeck spares = Expect.after(5, 5, 5, 5, 5, 5, 5, 5, 5, 5, 5, 5, 5, 5, 5, 5, 5, 5, 5, 5, 5);
        expect.same("taken(20)", 5, spares.taken(20));
        expect.outOfBounds("taken(21)", () -> spares.taken(21));
        expect.same("the points of spares", 150, spares.about(3));
        expect.same("the end with spares", 1, spares.about(9));
    }

    private static void setting() {
        PinDeck lane = new PinDeck();
        lane.set(0, 3);
        lane.set(1, 0);
        lane.set(2, 2);
        expect.same("setting(0)", 3, lane.setting(0));
        expect.same("setting(1)", 0, lane.setting(1));
        expect.same("setting(2)", 2, lane.setting(2));
        expect.badArgument("setting(-1)", () -> lane.setting(-1));
        expect.badArgument("setting(3)", () -> lane.setting(3));
    }

    public static void main(String[] args) {
        newObject();
        about();
        aboutTheEnd();
        told();
        pin();
        frame();
        lastFrames();
        spareBehindNothing();
        frameEight();
        taken();
        setting();
        expect.end();
    }
}
