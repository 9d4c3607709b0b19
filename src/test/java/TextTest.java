/** Promises 2 to 5: append, clearText, errorPosition, load. */
public final class TextTest {
    private static final Expect expect = new Expect("TextTest");

    private static PinDeck with(String text) {
        PinDeck lane = new PinDeck();
        Expect.type(lane, text);
        return lane;
    }

    private static void append() {
        PinDeck lane = new PinDeck();
        expect.same("append(0)", 1, lane.append(0));
        expect.same("append(255)", 2, lane.append(255));
        expect.badArgument("append(-1)", () -> lane.append(-1));
        expect.badArgument("append(256)", () -> lane.append(256));
        expect.badArgument("append(least)", () -> lane.append(Integer.MIN_VALUE));
        expect.badArgument("append(most)", () -> lane.append(Integer.MAX_VALUE));
        expect.same("append('P') behind wrong ones", 3, lane.append('P'));
        for (int i = 4; i <= 120; i++) {
            expect.same("append number " + i, i, lane.append('x'));
        }
        expect.badState("append to a full text", () -> lane.append('x'));
        expect.badArgument("append(256) to a full text", () -> lane.append(256));
        expect.same("clearText of a full text", 120, lane.clearText());
        expect.same("append behind clearText", 1, lane.append('P'));
    }

    private static void clearText() {
        PinDeck lane = with("P20m30");
        expect.same("clearText", 6, lane.clearText());
        expect.same("clearText of none", 0, lane.clearText());
        expect.same("errorPosition of none", 0, lane.errorPosition());
    }

    private static void error(String text, int due) {
        expect.same("errorPosition of " + text, due, with(text).errorPosition());
    }

    private static void errorPosition() {
        String[] games = {"P", "P00m01", "P40m30", "P39l09", "P20k10f", "P20r29f05s30",
            "P12m19f12m19f12m19f"};
        for (String game : games) {
            error(game, PinDeck.NONE);
        }
        error("", 0);
        error("p", 0);
        error("20m30", 0);
        error(" P", 0);
        String whole = "P40s30f40s30";
        for (int n = 0; n < whole.length(); n++) {
            boolean game = n == 1 || n == 6 || n == 7;
            error(whole.substring(0, n), game ? PinDeck.NONE : n);
        }
        Object[][] wrong = {{"PP", 1}, {"Pf", 1}, {"P5", 1}, {"P5x", 1}, {"P:", 1}, {"P/", 1}, {"P41", 2}, {"P4:", 2},
            {"P2m", 2}, {"P2/", 2}, {"P3:", 2}, {"P20n", 3}, {"P20M", 3}, {"P20f", 3}, {"P200", 3}, {"P20m4", 4},
            {"P20mm", 4}, {"P20m/", 4}, {"P20m00", 5}, {"P20m31", 5}, {"P20m0:", 5}, {"P20m2f", 5}, {"P20m3:", 5},
            {"P20m30m", 6}, {"P20m305", 6}, {"P20m30F", 6}, {"P20m30ff", 7}, {"P20m30 ", 6}, {"P20m30P", 6},
            {"P20m30f5", 7}, {"P20m30f41m", 8}, {"P20m30 20m30", 6}, {"P20m30" + (char) 255, 6},
            {"P20m30" + (char) 0, 6}, {"P20l30f20k3120", 11}};
        for (Object[] row : wrong) {
            error((String) row[0], (Integer) row[1]);
        }
    }

    private static void loadRolls() {
        PinDeck lane = with("P20m30" + "24m05f" + "20m04" + "00l30");
        expect.same("load", 0, lane.load());
        expect.same("the rolls loaded", 3, lane.about(2));
        expect.same("the first took", 6, lane.taken(0));
        expect.same("the foul took", 0, lane.taken(1));
        expect.same("the balls stopped", 1, lane.about(4));
        expect.same("the fouls", 1, lane.about(6));
        expect.same("the pins dropped", 2, lane.about(5));
        PinDeck same = new PinDeck();
        same.roll(20, 0, 30, false);
        same.roll(24, 0, 5, true);
        same.roll(20, 0, 4, false);
        same.roll(0, -2, 30, false);
        expect.holds("load does the rolls of the text", Expect.seen(same).equals(Expect.seen(lane)));
        for (int i = 0; i < 5 * 41; i++) {
            String ball = String.format("%02d%c30", i / 5, "lkmrs".charAt(i % 5));
            PinDeck other = new PinDeck();
            other.roll(i / 5, i % 5 - 2, 30, false);
            expect.holds("the ball " + ball, Expect.seen(Expect.loaded("P" + ball)).equals(Expect.seen(other)));
        }
    }

    private static void loadLeavesOut() {
        PinDeck lane = with("P" + "00m30".repeat(20) + "20m30" + "20m01" + "20m30");
        expect.same("load of 23 rolls", 3, lane.load());
        expect.same("its rolls", 20, lane.about(2));
        expect.same("its balls stopped behind the end", 0, lane.about(4));
        PinDeck slow = with("P" + "20m04".repeat(23));
        expect.same("load of 23 balls stopped", 0, slow.load());
        expect.same("its balls stopped", 23, slow.about(4));
        PinDeck fouls = with("P" + "00m30".repeat(19) + "00m30f" + "00m30f" + "00m30");
        expect.same("load with a foul behind the end", 2, fouls.load());
        expect.same("its fouls", 1, fouls.about(6));
        expect.same("load again", 2, fouls.load());
        expect.same("its fouls again", 1, fouls.about(6));
    }

    private static void loadMakesNew() {
        PinDeck lane = new PinDeck();
        lane.set(0, 90);
        lane.set(1, 3);
        lane.set(2, 3);
        lane.roll(20, 0, 30, true);
        lane.touch(6, 3);
        lane.set(2, 2);
        lane.roll(20, 0, 30, true);
        lane.touch(6, 3);
        lane.roll(20, 0, 30, true);
        lane.set(0, 3);
        lane.roll(20, 0, 1, true);
        expect.holds("pins dropped and balls stopped ahead of load", lane.about(5) == 1 && lane.about(4) == 1);
        lane.save(0);
        lane.save(1);
        lane.append('P');
        expect.same("load of no rolls", 0, lane.load());
        expect.holds("load makes all as in a new object", Expect.seen(new PinDeck()).equals(Expect.seen(lane)));
        expect.badState("undo behind load", lane::undo);
        expect.badState("restore(0) behind load", () -> lane.restore(0));
        expect.badState("restore(1) behind load", () -> lane.restore(1));
        expect.same("the text behind load", 1, lane.clearText());
        expect.badState("load of none", lane::load);
    }

    private static void loadThrows() {
        PinDeck lane = with("P20m30" + "20m");
        lane.set(1, 1);
        lane.save(0);
        String before = Expect.seen(lane);
        expect.badState("load of a text that ends too soon", lane::load);
        expect.holds("load that throws changes nothing", before.equals(Expect.seen(lane)));
        expect.same("undo behind load that throws", 0, lane.undo());
        expect.same("restore behind load that throws", 0, lane.restore(0));
        expect.same("the text behind load that throws", 9, lane.clearText());
    }

    private static void textIsNoState() {
        PinDeck lane = with("P");
        lane.begin();
        lane.append('2');
        lane.save(0);
        lane.append('0');
        expect.same("undo behind append", 0, lane.undo());
        lane.restore(0);
        expect.same("the text behind undo and restore", 3, lane.clearText());
    }

    public static void main(String[] args) {
        append();
        clearText();
        errorPosition();
        loadRolls();
        loadLeavesOut();
        loadMakesNew();
        loadThrows();
        textIsNoState();
        expect.end();
    }
}
