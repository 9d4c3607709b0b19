/** Counts and prints the answers that are not as due. */
final class Expect {
    interface Call {
        long answer();
    }

    private final String test;
    private int checks;
    private int wrong;

    Expect(String test) {
        this.test = test;
    }

    void same(String what, long due, long got) {
        checks++;
        if (got != due) {
            tell(what + " answered " + got + ", due is " + due);
        }
    }

    void holds(String what, boolean good) {
        checks++;
        if (!good) {
            tell(what);
        }
    }

    void outOfBounds(String what, Call call) {
        thrown(what, IndexOutOfBoundsException.class, call);
    }

    void badArgument(String what, Call call) {
        thrown(what, IllegalArgumentException.class, call);
    }

    void badState(String what, Call call) {
        thrown(what, IllegalStateException.class, call);
    }

    /** The class must be the very one: the machine's own exceptions are classes below these. */
    private void thrown(String what, Class<?> due, Call call) {
        checks++;
        try {
            tell(what + " answered " + call.answer() + ", due is " + due.getSimpleName());
        } catch (RuntimeException e) {
            if (e.getClass() != due) {
                tell(what + " threw " + e + ", due is " + due.getSimpleName());
            }
        }
    }

    private void tell(String fault) {
        wrong++;
        System.out.println(test + ": " + fault);
    }

    void end() {
        System.out.println(test + ": " + checks + " checks, " + wrong + " wrong");
        if (checks == 0 || wrong != 0) {
            System.exit(1);
        }
    }

    /** Appends a whole text to the text buffer. */
    static void type(PinDeck lane, String text) {
        for (int i = 0; i < text.length(); i++) {
            lane.append(text.charAt(i));
        }
    }

    /** A lane on which a text has been loaded. */
    static PinDeck loaded(String text) {
        PinDeck lane = new PinDeck();
        type(lane, text);
        lane.load();
        return lane;
    }

    /** A ball beside all pins: it takes just those told as standing that lean by more than setting 1. */
    static int beside(PinDeck lane, boolean foul) {
        return lane.roll(0, 0, 30, foul);
    }

    /** Makes the next roll take n pins: of those told as standing, the first n are touched. */
    static int take(PinDeck lane, int n) {
        int left = n;
        for (int k = 0; k < 10 && left > 0; k++) {
            if (lane.pin(k, 3) == 1) {
                lane.touch(k, 3);
                left--;
            }
        }
        return beside(lane, false);
    }

    /** A lane whose rolls took these numbers of pins. */
    static PinDeck after(int... takes) {
        PinDeck lane = new PinDeck();
        for (int n : takes) {
            take(lane, n);
        }
        return lane;
    }

    /** All that can be seen of the state. */
    static String seen(PinDeck lane) {
        StringBuilder all = new StringBuilder();
        for (int what = 0; what < 10; what++) {
            all.append(lane.about(what)).append(' ');
        }
        for (int k = 0; k < 10; k++) {
            for (int what = 0; what < 4; what++) {
                all.append(lane.pin(k, what)).append(' ');
            }
        }
        for (int f = 0; f < 10; f++) {
            for (int what = 0; what < 3; what++) {
                all.append(lane.frame(f, what)).append(' ');
            }
        }
        for (int i = 0; i < lane.about(2); i++) {
            all.append(lane.taken(i)).append(' ');
        }
        for (int what = 0; what < 3; what++) {
            all.append(lane.setting(what)).append(' ');
        }
        return all.toString();
    }
}
