import java.util.Random;
import java.util.function.IntBinaryOperator;
import java.util.function.IntUnaryOperator;

/** Runs of random calls, within the ranges and outside them, each answered by PinDeck as by PlainLane. */
public final class ModelTest {
    private static final int RUNS = 6000;
    /** An object is used for at most 512 calls: at the end, some 105 of them look at all that can be seen. */
    private static final int CALLS = 512 - 110;
    /** The most calls that one step makes: it types a text. */
    private static final int MOST_OF_STEP = 121;

    private static final class Run {
        final PinDeck lane = new PinDeck();
        final PlainLane plain = new PlainLane();
        final Random random;
        /** The calls so far, at the most. */
        int used;
        String call = "";

        Run(long seed) {
            random = new Random(seed);
        }

        int upTo(int low, int high) {
            return low + random.nextInt(high - low + 1);
        }

        /** Mostly a number of the range, sometimes one right behind its ends, or one far away. */
        int some(int low, int high) {
            switch (random.nextInt(60)) {
                case 0: return low - 1;
                case 1: return high + 1;
                case 2: return random.nextInt();
                case 3: return Integer.MIN_VALUE;
                case 4: return Integer.MAX_VALUE;
                default: return upTo(low, high);
            }
        }

        Expect.Call[] choose() {
            if (plain.now.over && random.nextInt(8) == 0) {
                return pair("begin", lane::begin, plain::begin);
            }
            switch (random.nextInt(30)) {
                case 0: return text();
                case 1: return pair("load", lane::load, plain::load);
                case 2: return pair("errorPosition", lane::errorPosition, plain::errorPosition);
                case 3: return setting();
                case 4: return random.nextInt(4) == 0 ? pair("begin", lane::begin, plain::begin) : touch();
                case 5: return touch();
                case 6: return random.nextInt(2) == 0 ? pair("undo", lane::undo, plain::undo) : touch();
                case 7: return would();
                case 8: return bestBoard();
                case 9: return pair("slowest", lane::slowest, plain::slowest);
                case 10: return goesOn();
                case 11: return pair("drops", lane::drops, plain::drops);
                case 12: return script();
                case 13: return simulate();
                case 14: return slot();
                case 15: return look();
                case 16: return touchMany();
                default: return roll();
            }
        }

        Expect.Call[] pair(String name, Expect.Call one, Expect.Call other) {
            call = name;
            used++;
            return new Expect.Call[] {one, other};
        }

        Expect.Call[] text() {
            if (random.nextInt(3) == 0) {
                return pair("clearText", lane::clearText, plain::clearText);
            }
            if (random.nextInt(3) == 0) {
                int c = some(0, 255);
                return pair("append " + c, () -> lane.append(c), () -> plain.append(c));
            }
            StringBuilder game = new StringBuilder();
            int rolls = random.nextInt(24);
            if (plain.text.isEmpty()) {
                game.append('P');
            }
            for (int i = 0; i < rolls; i++) {
                game.append(String.format("%02d%c%02d", upTo(5, 35), "lkmrs".charAt(random.nextInt(5)), upTo(1, 30)));
                game.append(random.nextInt(8) == 0 ? "f" : "");
            }
            if (random.nextInt(3) == 0 && game.length() > 0) {
                game.setCharAt(random.nextInt(game.length()), "P0123456789lkmrsfx ".charAt(random.nextInt(19)));
            }
            used += game.length();
            return pair("append " + game, () -> typed(game, lane::append), () -> typed(game, plain::append));
        }

        Expect.Call[] setting() {
            int what = some(0, 2);
            int v = what == 0 ? some(3, 90) : some(0, 3);
            return pair("set " + what + " " + v, () -> lane.set(what, v), () -> plain.set(what, v));
        }

        Expect.Call[] touch() {
            int k = some(0, 9);
            int v = some(0, 3);
            return pair("touch " + k + " " + v, () -> lane.touch(k, v), () -> plain.touch(k, v));
        }

        /** Touches so many pins that strikes and spares come about. */
        Expect.Call[] touchMany() {
            int first = random.nextInt(3) == 0 ? upTo(0, 9) : 0;
            used += 20;
            return pair("touch all from " + first, () -> touched(first, lane::pin, lane::touch),
                    () -> touched(first, plain::pin, plain::touch));
        }

        Expect.Call[] roll() {
            int board = random.nextInt(3) == 0 ? some(0, 40) : upTo(12, 28);
            int drift = some(-2, 2);
            int speed = random.nextInt(3) == 0 ? some(1, 30) : 30;
            boolean foul = random.nextInt(10) == 0;
            return pair("roll " + board + " " + drift + " " + speed + " " + foul,
                    () -> lane.roll(board, drift, speed, foul), () -> plain.roll(board, drift, speed, foul));
        }

        Expect.Call[] would() {
            int board = some(0, 40);
            int drift = some(-2, 2);
            int what = some(0, 3);
            return pair("would " + board + " " + drift + " " + what,
                    () -> lane.would(board, drift, what), () -> plain.would(board, drift, what));
        }

        Expect.Call[] bestBoard() {
            int drift = some(-2, 2);
            return pair("bestBoard " + drift, () -> lane.bestBoard(drift), () -> plain.bestBoard(drift));
        }

        Expect.Call[] goesOn() {
            int board = some(0, 40);
            int drift = some(-2, 2);
            return pair("goesOn " + board + " " + drift,
                    () -> lane.goesOn(board, drift), () -> plain.goesOn(board, drift));
        }

        Expect.Call[] script() {
            int n = some(1, 3);
            long script = 0;
            for (int i = 0; i < 3 && i < n; i++) {
                script = script * 100000 + command();
            }
            if (random.nextInt(30) == 0) {
                script = random.nextBoolean() ? random.nextLong() : script * 10 - random.nextInt(3);
            }
            long s = script;
            return pair("runScript " + n + " " + s, () -> lane.runScript(n, s), () -> plain.runScript(n, s));
        }

        int command() {
            int end = random.nextInt(30) == 0 ? 1 : 0;
            switch (random.nextInt(10)) {
                case 0: return random.nextInt(100000);
                case 1: return 10000 + 100 * upTo(10, 41) + 10 * upTo(0, 5) + end;
                case 2: return 20000 + 100 * upTo(0, 41) + 10 * upTo(0, 5) + end;
                case 3: return 30000 + 1000 * upTo(0, 9) + 100 * upTo(0, 4) + end;
                case 4: return 40000 + 1000 * upTo(0, 3) + 10 * upTo(0, random.nextBoolean() ? 4 : 99) + end;
                case 5: return 50000 + end;
                case 6: return 60000 + upTo(0, 11) + 100 * end;
                case 7: return 70000 + 1000 * upTo(0, 9) + 100 * upTo(0, 5) + end;
                case 8: return 80000 + upTo(0, 200) + 1000 * end;
                default: return 90000 + 1000 * upTo(0, 9) + upTo(0, 3) + 10 * end;
            }
        }

        Expect.Call[] simulate() {
            long seed = random.nextLong();
            int m = some(1, 60);
            return pair("simulate " + seed + " " + m, () -> lane.simulate(seed, m), () -> plain.simulate(seed, m));
        }

        Expect.Call[] slot() {
            int slot = some(0, 1);
            if (random.nextBoolean()) {
                return pair("save " + slot, () -> lane.save(slot), () -> plain.save(slot));
            }
            return pair("restore " + slot, () -> lane.restore(slot), () -> plain.restore(slot));
        }

        Expect.Call[] look() {
            int k = some(0, 9);
            int what = some(0, 3);
            switch (random.nextInt(5)) {
                case 0: return pair("about " + k, () -> lane.about(k), () -> plain.about(k));
                case 1: return pair("pin " + k + " " + what, () -> lane.pin(k, what), () -> plain.pin(k, what));
                case 2: return pair("frame " + k + " " + what, () -> lane.frame(k, what), () -> plain.frame(k, what));
                case 3: return pair("taken " + k, () -> lane.taken(k), () -> plain.taken(k));
                default: return pair("setting " + what, () -> lane.setting(what), () -> plain.setting(what));
            }
        }
    }

    private static int typed(CharSequence text, IntUnaryOperator append) {
        int length = -1;
        for (int i = 0; i < text.length(); i++) {
            length = append.applyAsInt(text.charAt(i));
        }
        return length;
    }

    private static int touched(int first, IntBinaryOperator pin, IntBinaryOperator touch) {
        int sum = 0;
        for (int k = first; k < 10; k++) {
            sum += pin.applyAsInt(k, 0) == 4 ? 0 : touch.applyAsInt(k, 3);
        }
        return sum;
    }

    private static String outcome(Expect.Call call) {
        try {
            return String.valueOf(call.answer());
        } catch (IndexOutOfBoundsException | IllegalArgumentException | IllegalStateException e) {
            return "throws " + e.getClass().getSimpleName();
        }
    }

    private static String seen(PlainLane plain) {
        StringBuilder all = new StringBuilder();
        for (int what = 0; what < 10; what++) {
            all.append(plain.about(what)).append(' ');
        }
        for (int i = 0; i < 40; i++) {
            all.append(plain.pin(i / 4, i % 4)).append(' ');
        }
        for (int i = 0; i < 30; i++) {
            all.append(plain.frame(i / 3, i % 3)).append(' ');
        }
        for (int taken : plain.now.rolls()) {
            all.append(taken).append(' ');
        }
        for (int setting : plain.now.settings) {
            all.append(setting).append(' ');
        }
        return all.toString();
    }

    /** Answers what is wrong in a run of calls; an empty text if nothing is. */
    private static String fault(long seed) {
        Run run = new Run(seed);
        int end = 1 + run.random.nextInt(CALLS - MOST_OF_STEP);
        StringBuilder calls = new StringBuilder("seed " + seed + ": ");
        while (run.used < end) {
            Expect.Call[] both = run.choose();
            calls.append(run.call).append("; ");
            String got = outcome(both[0]);
            String due = outcome(both[1]);
            if (!got.equals(due)) {
                return calls + "answered " + got + ", due is " + due;
            }
        }
        String got = Expect.seen(run.lane);
        String due = seen(run.plain);
        return got.equals(due) ? "" : calls + "seen is " + got + ", due is " + due;
    }

    public static void main(String[] args) {
        Expect expect = new Expect("ModelTest");
        for (int seed = 0; seed < RUNS; seed++) {
            String fault = fault(seed);
            expect.holds(fault, fault.isEmpty());
        }
        expect.end();
    }
}
