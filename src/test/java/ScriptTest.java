import java.util.function.Consumer;

/** Promises 21 and 22: runScript, simulate. */
public final class ScriptTest {
    private static final Expect expect = new Expect("ScriptTest");

    /** Does scripts, and then looks whether the lane is as it was. */
    private static void changesNothing(PinDeck lane, Consumer<PinDeck> scripts) {
        String before = Expect.seen(lane);
        scripts.accept(lane);
        expect.equal("the states", before, Expect.seen(lane));
    }

    private static void script(PinDeck lane, int n, long script, int due) {
        expect.same("runScript(" + n + ", " + script + ")", due, lane.runScript(n, script));
    }

    private static void each(PinDeck lane, int due, int... commands) {
        for (int command : commands) {
            script(lane, 1, command, due);
        }
    }

    private static void groups(PinDeck lane) {
        each(lane, PinDeck.NONE, 12020, 10000, 14040, 13920, 24020, 23920, 22020, 20040, 30000, 39300, 40030,
                40900, 41000, 41030, 42030, 42000, 50000, 60010, 60011, 60099, 70000, 79000, 80000, 90000, 99000);
        each(lane, 0, 0, 9999, 1, 12021, 14120, 19920, 12050, 12090, 24120, 22021, 22050, 30400, 30010, 30001, 30009,
                40020, 40910, 40990, 41040, 42040, 41990, 43000, 49000, 40031, 50001, 50010, 50100, 51000, 60009,
                60000, 60110, 61010, 70100, 70400, 70010, 70001, 70900, 80001, 81000, 89000, 90001, 90002, 90003,
                90010, 90100, 90009);
    }

    private static void sequences(PinDeck lane) {
        script(lane, 2, 1202060002L, PinDeck.NONE);
        script(lane, 2, 1202060001L, 1);
        script(lane, 3, 120206000270400L, PinDeck.NONE);
        script(lane, 3, 120207040070400L, PinDeck.NONE);
        script(lane, 3, 120207000070400L, 1);
        script(lane, 3, 120207330080006L, 1);
        script(lane, 3, 120208000680007L, 2);
        script(lane, 3, 220206001080000L, PinDeck.NONE);
        script(lane, 3, 220206000980000L, 1);
        script(lane, 3, 306003630076300L, 0);
        script(lane, 3, 363006001076200L, 2);
        script(lane, 3, 363006001076300L, PinDeck.NONE);
        script(lane, 3, 363003620076200L, PinDeck.NONE);
        script(lane, 3, 401204000080000L, 1);
        script(lane, 3, 412004000080000L, 0);
        script(lane, 3, 420004003012020L, PinDeck.NONE);
        script(lane, 3, 120203000080006L, 1);
        script(lane, 3, 120205000080000L, PinDeck.NONE);
        script(lane, 3, 120205000080001L, 2);
        script(lane, 3, 50000L, 0);
        script(lane, 2, 50000L, 0);
        script(lane, 2, 5000050000L, PinDeck.NONE);
        script(lane, 2, 5000000000L, 1);
        script(lane, 3, 500005000099999L, 2);
        script(lane, 3, 999999999999999L, 0);
    }

    private static void speedAndRake(PinDeck lane) {
        script(lane, 2, 1202060002L, PinDeck.NONE);
        script(lane, 2, 2202080000L, PinDeck.NONE);
    }

    /** The drift is d - 2: from the board 17, balls take other pins with other drifts. */
    private static void drifts() {
        for (int d = 0; d <= 4; d++) {
            PinDeck lane = new PinDeck();
            int takes = lane.would(17, d - 2, 2);
            script(lane, 2, (11700 + 10 * d) * 100000L + 80000 + takes, PinDeck.NONE);
            script(lane, 2, (11700 + 10 * d) * 100000L + 80001 + takes, 1);
        }
    }

    private static void marks(PinDeck lane) {
        each(lane, PinDeck.NONE, 90001, 91002, 92000, 93000, 80036, 70400);
        each(lane, 0, 90000, 90002, 91001, 91000, 92001, 80037, 80100, 70300);
    }

    private static void marksAtTheEnd(PinDeck over) {
        each(over, PinDeck.NONE, 80300, 99001, 60000, 79300, 30000, 50000);
        each(over, 0, 80301, 12020, 22020, 99000);
        script(over, 2, 5000012020L, PinDeck.NONE);
    }

    private static void scriptThrows() {
        PinDeck lane = new PinDeck();
        expect.badArgument("n 0", () -> lane.runScript(0, 0));
        expect.badArgument("n 4", () -> lane.runScript(4, 50000));
        expect.badArgument("n least", () -> lane.runScript(Integer.MIN_VALUE, 50000));
        expect.badArgument("script -1", () -> lane.runScript(1, -1));
        expect.badArgument("script least", () -> lane.runScript(3, Long.MIN_VALUE));
        expect.badArgument("6 digits for 1", () -> lane.runScript(1, 100000));
        expect.badArgument("11 digits for 2", () -> lane.runScript(2, 10000000000L));
        expect.badArgument("16 digits for 3", () -> lane.runScript(3, 1000000000000000L));
        expect.badArgument("script most", () -> lane.runScript(3, Long.MAX_VALUE));
        expect.same("5 digits for 1", 0, lane.runScript(1, 99999));
        expect.same("10 digits for 2", 0, lane.runScript(2, 9999999999L));
    }

    private static void simulate() {
        for (long seed = -500; seed < 500; seed++) {
            long far = seed * 0x9E3779B97F4A7C15L;
            int m = (int) Math.floorMod(seed * 7, 60L) + 1;
            expect.same("simulate(" + far + ", " + m + ")", Expect.turns(new PinDeck(), far, m),
                    new PinDeck().simulate(far, m));
        }
        PinDeck lane = new PinDeck();
        lane.set(0, 90);
        lane.roll(20, 0, 30, false);
        lane.save(0);
        String before = Expect.seen(lane);
        int got = lane.simulate(Long.MAX_VALUE, 60);
        expect.holds("simulate changes nothing", before.equals(Expect.seen(lane)));
        expect.same("simulate from a state", Expect.turns(lane, Long.MAX_VALUE, 60), got);
        expect.badArgument("m 0", () -> lane.simulate(1, 0));
        expect.badArgument("m 61", () -> lane.simulate(1, 61));
        expect.badArgument("m least", () -> lane.simulate(1, Integer.MIN_VALUE));
        PinDeck over = Expect.after(10, 10, 10, 10, 10, 10, 10, 10, 10, 10, 10, 10);
        expect.same("simulate at the end", 12300, over.simulate(5, 60));
    }

    public static void main(String[] args) {
        changesNothing(new PinDeck(), ScriptTest::groups);
        changesNothing(new PinDeck(), ScriptTest::sequences);
        PinDeck fast = new PinDeck();
        fast.set(0, 3);
        changesNothing(fast, ScriptTest::speedAndRake);
        drifts();
        changesNothing(Expect.after(10, 4, 6, 3), ScriptTest::marks);
        changesNothing(Expect.allStrikes(), ScriptTest::marksAtTheEnd);
        scriptThrows();
        simulate();
        expect.end();
    }
}
