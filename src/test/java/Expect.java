import java.util.function.Consumer;

/** Counts and prints the answers that are not as due. */
final class Expect {
    interface Call {
        long answer();
    }

    /** Arguments that are out of every range. */
    static final int[] FAR = {Integer.MIN_VALUE, Integer.MIN_VALUE + 1, Integer.MAX_VALUE};

    private static final int PROMISES = 24;
    /** Of the faults of one sentence; all of them are counted. */
    private static final int MOST_PRINTED = 20;

    private final String test;
    private final boolean[] tested = new boolean[PROMISES + 1];
    /** The promise and the sentence that are tested now, as a fault tells them. */
    private String where = "";
    private int faultsHere;
    private int checks;
    private int wrong;

    Expect(String test) {
        this.test = test;
    }

    /** Runs the test of one sentence of the document, for one promise; each of its faults names both. */
    void test(int promise, String sentence, Runnable body) {
        where = "promise " + promise + ", \"" + sentence + "\": ";
        tested[promise] = true;
        int before = checks;
        faultsHere = 0;
        try {
            body.run();
        } catch (RuntimeException e) {
            tell("threw " + e);
        }
        if (checks == before) {
            tell("nothing is checked");
        }
        where = "";
    }

    void same(String what, long due, long got) {
        checks++;
        if (got != due) {
            tell(what + " answered " + got + ", due is " + due);
        }
    }

    void holds(String what, boolean good) {
        checks++;
        if (!good) {
            tell(what);
        }
    }

    void outOfBounds(String what, Call call) {
        thrown(what, IndexOutOfBoundsException.class, call);
    }

    void badArgument(String what, Call call) {
        thrown(what, IllegalArgumentException.class, call);
    }

    void badState(String what, Call call) {
        thrown(what, IllegalStateException.class, call);
    }

    /** The class must be the very one: the machine's own exceptions are classes below these. */
    private void thrown(String what, Class<?> due, Call call) {
        checks++;
        try {
            tell(what + " answered " + call.answer() + ", due is " + due.getSimpleName());
        } catch (RuntimeException e) {
            if (e.getClass() != due) {
                tell(what + " threw " + e + ", due is " + due.getSimpleName());
            }
        }
    }

    /** Behind a throwing call all is as it was: what is seen, the text, the save slots and the states remembered. */
    void changesNothing(String what, Consumer<PinDeck> throwing) {
        PinDeck lane = after(10, 3);
        lane.append('P');
        lane.save(1);
        lane.touch(9, 3);
        String before = seen(lane);
        try {
            throwing.accept(lane);
            tell(what + " throws nothing");
        } catch (IndexOutOfBoundsException | IllegalArgumentException | IllegalStateException e) {
            equal("the states behind " + what, before, seen(lane));
        }
        same("undo behind " + what, 13, lane.undo());
        badState("restore(0) behind " + what, () -> lane.restore(0));
        same("restore(1) behind " + what, 2, lane.restore(1));
        same("the text behind " + what, 1, lane.clearText());
    }

    private void tell(String fault) {
        wrong++;
        faultsHere++;
        if (faultsHere <= MOST_PRINTED) {
            System.out.println(test + ": " + where + fault);
        }
    }

    /** Each of these promises must have had a sentence that was tested. */
    void covers(int firstPromise, int lastPromise) {
        for (int promise = firstPromise; promise <= lastPromise; promise++) {
            holds("promise " + promise + " has no test", tested[promise]);
        }
    }

    void end() {
        System.out.println(test + ": " + checks + " checks, " + wrong + " wrong");
        if (checks == 0 || wrong != 0) {
            System.exit(1);
        }
    }

    /** Appends a whole text to the text buffer. */
    static void type(PinDeck lane, String text) {
        for (int i = 0; i < text.length(); i++) {
            lane.append(text.charAt(i));
        }
    }

    /** A lane on which a text has been loaded. */
    static PinDeck loaded(String text) {
        PinDeck lane = new PinDeck();
        type(lane, text);
        lane.load();
        return lane;
    }

    /** A ball beside all pins: it takes just those told as standing that lean by more than setting 1. */
    static int beside(PinDeck lane, boolean foul) {
        return lane.roll(0, 0, 30, foul);
    }

    /** Makes the next roll take n pins: of those told as standing, the first n are touched. */
    static int take(PinDeck lane, int n) {
        int left = n;
        for (int k = 0; k < 10 && left > 0; k++) {
            if (lane.pin(k, 3) == 1) {
                lane.touch(k, 3);
                left--;
            }
        }
        return beside(lane, false);
    }

    /** A lane whose rolls took these numbers of pins. */
    static PinDeck after(int... takes) {
        PinDeck lane = new PinDeck();
        for (int n : takes) {
            take(lane, n);
        }
        return lane;
    }

    /** A lane ahead of the last roll of its game: behind that one, the pins stay as the ball left them. */
    static PinDeck aheadOfLast() {
        return after(new int[19]);
    }

    /** A lane ahead of the frame 9, nothing having been taken. */
    static PinDeck aheadOfLastFrame() {
        return after(new int[18]);
    }

    /** A lane of which the frame 9 took these, nothing having been taken ahead of it. */
    static PinDeck lastFrame(int... takes) {
        PinDeck lane = aheadOfLastFrame();
        for (int n : takes) {
            take(lane, n);
        }
        return lane;
    }

    /** A lane ahead of the last roll of its game: all pins but these have been taken by the roll ahead of it. */
    static PinDeck only(int... left) {
        PinDeck lane = aheadOfLastFrame();
        touchAll(lane, 3);
        for (int k : left) {
            lane.touch(k, 0);
        }
        beside(lane, false);
        return lane;
    }

    /** A lane in the middle of a frame, all of whose pins have dropped. */
    static PinDeck allDropped() {
        PinDeck lane = new PinDeck();
        touchAll(lane, 2);
        beside(lane, false);
        return lane;
    }

    /** A game of twelve strikes, at its end. */
    static PinDeck allStrikes() {
        return after(10, 10, 10, 10, 10, 10, 10, 10, 10, 10, 10, 10);
    }

    /** A lane at its end behind twenty rolls that took nothing. */
    static PinDeck over() {
        return after(new int[20]);
    }

    static void touchAll(PinDeck lane, int v) {
        for (int k = 0; k < 10; k++) {
            lane.touch(k, v);
        }
    }

    /** What simulate answers, if the turns are done by the methods themselves on this lane. */
    static int turns(PinDeck lane, long seed, int m) {
        long x = seed;
        for (int i = 0; i < m; i++) {
            x = x * 6364136223846793005L + 1442695040888963407L;
            int r = (int) (x >>> 33);
            int q = r / 8;
            int kind = r % 8;
            try {
                if (kind == 0) {
                    lane.touch(q % 10, q / 16 % 4);
                } else if (kind == 1) {
                    lane.set(1 + q % 2, q / 2 % 4);
                } else {
                    lane.roll(10 + q % 21, q / 32 % 5 - 2, 1 + q / 256 % 30, q / 8192 % 16 == 0);
                }
            } catch (IllegalArgumentException | IllegalStateException e) {
                continue;
            }
        }
        return 1000 * lane.about(2) + lane.about(3);
    }

    /** How the pins lean, a digit for each; 4 for one that has fallen. */
    static String leanings(PinDeck lane) {
        StringBuilder all = new StringBuilder();
        for (int k = 0; k < 10; k++) {
            all.append(lane.pin(k, 0));
        }
        return all.toString();
    }

    void leanings(String what, String due, PinDeck lane) {
        equal(what + ": the leanings", due, leanings(lane));
    }

    void equal(String what, String due, String got) {
        holds(what + " are " + got + ", due are " + due, due.equals(got));
    }

    /** All that can be seen of the state. */
    static String seen(PinDeck lane) {
        StringBuilder all = new StringBuilder();
        for (int what = 0; what < 10; what++) {
            all.append(lane.about(what)).append(' ');
        }
        for (int k = 0; k < 10; k++) {
            for (int what = 0; what < 4; what++) {
                all.append(lane.pin(k, what)).append(' ');
            }
        }
        for (int f = 0; f < 10; f++) {
            for (int what = 0; what < 3; what++) {
                all.append(lane.frame(f, what)).append(' ');
            }
        }
        int rolls = lane.about(2);
        for (int i = 0; i < rolls; i++) {
            all.append(lane.taken(i)).append(' ');
        }
        for (int what = 0; what < 3; what++) {
            all.append(lane.setting(what)).append(' ');
        }
        return all.toString();
    }
}
