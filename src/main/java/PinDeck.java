/** The pinsetter of a bowling lane: its pins, its game, its settings, and a game as a text. */
public final class PinDeck {

    public static final int NONE = -1;

    private static final int PINS = 10;
    private static final int ROWS = 4;
    /** The board of each pin without a shift: 20 - 3 * (its row) + 6 * (its index). */
    private static final int[] HOME_BOARD = {20, 17, 23, 14, 20, 26, 11, 17, 23, 29};
    private static final int ALL_PINS = 1023;
    private static final int MOST_LEANING = 3;
    /** Above every leaning and every setting, so that one comparison also finds what has fallen. */
    private static final int FALLEN = 4;
    private static final int MOST_SHIFT = 2;

    private static final int HIGHEST_BOARD = 40;
    private static final int MOST_DRIFT = 2;
    /** A ball of this speed takes 3 ticks: the machine waits for it whatever setting 0 is. */
    private static final int HIGHEST_SPEED = 30;
    private static final int BALL_TICKS = 90;

    private static final int FRAMES = 10;
    private static final int LAST_FRAME = 9;
    private static final int MOST_ROLLS = 21;
    private static final int STRIKE = 1;
    private static final int SPARE = 2;

    private static final int WAIT = 0;
    private static final int TOLD_LEANING = 1;
    private static final int GRIP_LEANING = 2;
    private static final int SETTINGS = 3;

    private static final int MOST_TEXT = 120;
    private static final int MOST_REMEMBERED = 14;
    private static final int SLOTS = 2;
    private static final int MOST_COMMANDS = 3;
    private static final int MOST_TURNS = 60;

    private final GameText text;
    private final State now;
    /** What would be is tried on this one, so that no call makes states of its own. */
    private final State trial;
    private final History history;
    private final Slots slots;

    public PinDeck() {
        text = new GameText();
        now = new State();
        trial = new State();
        history = new History();
        slots = new Slots();
    }

    // ---- text

    public int append(int c) throws IllegalArgumentException, IllegalStateException {
        if (c < 0 || c > 255) {
            throw new IllegalArgumentException("a character is 0 to 255");
        }
        if (text.isFull()) {
            throw new IllegalStateException("the text is full");
        }
        return text.add(c);
    }

    public int clearText() {
        return text.empty();
    }

    public int errorPosition() {
        return text.firstError();
    }

    public int load() throws IllegalStateException {
        if (text.firstError() != NONE) {
            throw new IllegalStateException("the text is not a game");
        }
        now.renew();
        history.forget();
        slots.forget();
        return text.playOn(now);
    }

    // ---- what there is

    public int about(int what) throws IllegalArgumentException {
        switch (what) {
            case 0: return now.sheet.frameNow();
            case 1: return now.sheet.rollsIn(now.sheet.frameNow());
            case 2: return now.sheet.rolls();
            case 3: return now.sheet.allPoints();
            case 4: return now.stopped;
            case 5: return now.dropped;
            case 6: return now.fouls;
            case 7: return Integer.bitCount(now.pins.toldSet());
            case 8: return Integer.bitCount(now.pins.upSet());
            case 9: return now.sheet.isOver() ? 1 : 0;
            default: throw new IllegalArgumentException("what is 0 to 9");
        }
    }

    public int pin(int k, int what) throws IndexOutOfBoundsException, IllegalArgumentException {
        if (!isPin(k)) {
            throw new IndexOutOfBoundsException("there is no such pin");
        }
        switch (what) {
            case 0: return now.pins.leaningOf(k);
            case 1: return now.pins.shiftOf(k);
            case 2: return now.pins.boardOf(k);
            case 3: return now.pins.toldSet() >> k & 1;
            default: throw new IllegalArgumentException("what is 0 to 3");
        }
    }

    public int frame(int f, int what) throws IndexOutOfBoundsException, IllegalArgumentException {
        if (!isFrame(f)) {
            throw new IndexOutOfBoundsException("there is no such frame");
        }
        switch (what) {
            case 0: return now.sheet.rollsIn(f);
            case 1: return now.sheet.pointsOf(f);
            case 2: return now.sheet.markOf(f);
            default: throw new IllegalArgumentException("what is 0 to 2");
        }
    }

    public int taken(int i) throws IndexOutOfBoundsException {
        if (i < 0 || i >= now.sheet.rolls()) {
            throw new IndexOutOfBoundsException("there is no such roll");
        }
        return now.sheet.takenBy(i);
    }

    public int setting(int what) throws IllegalArgumentException {
        if (!isSetting(what)) {
            throw new IllegalArgumentException("a setting is 0 to 2");
        }
        return now.settingAt(what);
    }

    // ---- actions

    public int begin() {
        history.remember(now);
        return now.beginGame();
    }

    public int roll(int board, int drift, int speed, boolean foul)
            throws IllegalArgumentException, IllegalStateException {
        if (!isBall(board, drift) || !isSpeed(speed)) {
            throw new IllegalArgumentException("there is no such ball");
        }
        if (now.sheet.isOver()) {
            throw new IllegalStateException("the game is over");
        }
        history.remember(now);
        return now.bowl(board, drift, speed, foul);
    }

    public int touch(int k, int v)
            throws IndexOutOfBoundsException, IllegalArgumentException, IllegalStateException {
        if (!isPin(k)) {
            throw new IndexOutOfBoundsException("there is no such pin");
        }
        if (!isLeaning(v)) {
            throw new IllegalArgumentException("a leaning is 0 to 3");
        }
        if (!now.pins.isUp(k)) {
            throw new IllegalStateException("the pin has fallen");
        }
        history.remember(now);
        return now.pins.makeLean(k, v);
    }

    public int set(int what, int v) throws IllegalArgumentException {
        if (!isSetting(what) || !isValue(what, v)) {
            throw new IllegalArgumentException("there is no such setting or value");
        }
        history.remember(now);
        return now.change(what, v);
    }

    public int undo() throws IllegalStateException {
        if (history.isEmpty()) {
            throw new IllegalStateException("no state is remembered");
        }
        return history.takeBack(now);
    }

    // ---- what would be

    public int would(int board, int drift, int what) throws IllegalArgumentException {
        if (!isBall(board, drift)) {
            throw new IllegalArgumentException("there is no such ball");
        }
        int takes = takesOnTrial(board, drift);
        switch (what) {
            case 0: return trial.pins.fellSet();
            case 1: return trial.pins.leaningSet();
            case 2: return Integer.bitCount(takes);
            case 3: return Integer.bitCount(takes & trial.pins.upSet());
            default: throw new IllegalArgumentException("what is 0 to 3");
        }
    }

    public int bestBoard(int drift) throws IllegalArgumentException {
        if (!isBall(0, drift)) {
            throw new IllegalArgumentException("a drift is -2 to 2");
        }
        int best = 0;
        int most = -1;
        for (int board = 0; board <= HIGHEST_BOARD; board++) {
            int takes = Integer.bitCount(takesOnTrial(board, drift));
            if (takes > most) {
                most = takes;
                best = board;
            }
        }
        return best;
    }

    /** Lets a copy of the pins meet a ball, and answers the set of those that it takes. */
    private int takesOnTrial(int board, int drift) {
        trial.pins.copyFrom(now.pins);
        trial.pins.meetBall(board, drift);
        return trial.pins.tell(now.settingAt(TOLD_LEANING));
    }

    public int slowest() {
        int speed = 1;
        while (speed < HIGHEST_SPEED && now.stops(speed)) {
            speed++;
        }
        return speed;
    }

    public int goesOn(int board, int drift) throws IllegalArgumentException {
        if (!isBall(board, drift)) {
            throw new IllegalArgumentException("there is no such ball");
        }
        trial.copyFrom(now);
        for (int i = 0; i < MOST_ROLLS && !trial.sheet.isOver(); i++) {
            trial.bowl(board, drift, HIGHEST_SPEED, false);
        }
        return trial.sheet.allPoints();
    }

    public int drops() {
        return now.pins.dropSet(now.settingAt(GRIP_LEANING));
    }

    // ---- scripts, simulations

    public int runScript(int n, long script) throws IllegalArgumentException {
        if (n < 1 || n > MOST_COMMANDS) {
            throw new IllegalArgumentException("a script has 1 to 3 commands");
        }
        if (script < 0 || script >= Script.unitOf(n)) {
            throw new IllegalArgumentException("the script has more digits than its commands");
        }
        trial.copyFrom(now);
        for (int i = 0; i < n; i++) {
            int group = (int) (script / Script.unitOf(n - 1 - i) % Script.GROUP);
            if (!Script.succeeds(trial, group)) {
                return i;
            }
        }
        return NONE;
    }

    public int simulate(long seed, int m) throws IllegalArgumentException {
        if (m < 1 || m > MOST_TURNS) {
            throw new IllegalArgumentException("m is 1 to 60");
        }
        trial.copyFrom(now);
        long x = seed;
        for (int i = 0; i < m; i++) {
            x = x * 6364136223846793005L + 1442695040888963407L;
            takeTurn((int) (x >>> 33));
        }
        return 1000 * trial.sheet.rolls() + trial.sheet.allPoints();
    }

    /** One turn of a simulation, whose number r is 0 or more. */
    private void takeTurn(int r) {
        int q = r / 8;
        switch (r % 8) {
            case 0:
                trial.tryTouch(q % 10, q / 16 % 4);
                break;
            case 1:
                trial.trySet(1 + q % 2, q / 2 % 4);
                break;
            default:
                trial.tryRoll(10 + q % 21, q / 32 % 5 - 2, 1 + q / 256 % 30, q / 8192 % 16 == 0);
                break;
        }
    }

    // ---- save slots

    public int save(int slot) throws IndexOutOfBoundsException {
        if (!isSlot(slot)) {
            throw new IndexOutOfBoundsException("there is no such save slot");
        }
        slots.keep(slot, now);
        return now.sheet.rolls();
    }

    public int restore(int slot) throws IndexOutOfBoundsException, IllegalStateException {
        if (!isSlot(slot)) {
            throw new IndexOutOfBoundsException("there is no such save slot");
        }
        if (!slots.isKept(slot)) {
            throw new IllegalStateException("nothing has been saved in this slot");
        }
        slots.giveBack(slot, now);
        history.forget();
        return now.sheet.rolls();
    }

    // ---- ranges

    private static boolean isPin(int k) {
        return k >= 0 && k < PINS;
    }

    private static boolean isFrame(int f) {
        return f >= 0 && f < FRAMES;
    }

    private static boolean isLeaning(int v) {
        return v >= 0 && v <= MOST_LEANING;
    }

    private static boolean isBall(int board, int drift) {
        return board >= 0 && board <= HIGHEST_BOARD && drift >= -MOST_DRIFT && drift <= MOST_DRIFT;
    }

    private static boolean isSpeed(int speed) {
        return speed >= 1 && speed <= HIGHEST_SPEED;
    }

    private static boolean isSetting(int what) {
        return what >= 0 && what < SETTINGS;
    }

    /** Whether v is in the range of the setting. */
    private static boolean isValue(int what, int v) {
        return what == WAIT ? v >= 3 && v <= 90 : isLeaning(v);
    }

    private static boolean isSlot(int slot) {
        return slot >= 0 && slot < SLOTS;
    }

    /** The ten pins. A set of pins is a number with the bit 1 << k for each pin k of it. */
    private static final class Pins {
        private final int[] leaning;
        private final int[] shift;
        private int told;
        /** The pins that the last ball made fall; one that went to both sides is in both sets. */
        private int wentLeft;
        private int wentRight;

        Pins() {
            leaning = new int[PINS];
            shift = new int[PINS];
            told = ALL_PINS;
        }

        void newRack() {
            for (int k = 0; k < PINS; k++) {
                leaning[k] = 0;
                shift[k] = 0;
            }
            told = ALL_PINS;
        }

        void copyFrom(Pins other) {
            for (int k = 0; k < PINS; k++) {
                leaning[k] = other.leaning[k];
                shift[k] = other.shift[k];
            }
            told = other.told;
        }

        /** A pin that does not exist counts as fallen: nothing can be done to it. */
        boolean isUp(int k) {
            return k >= 0 && k < PINS && leaning[k] < FALLEN;
        }

        int leaningOf(int k) {
            return isPin(k) ? leaning[k] : FALLEN;
        }

        int shiftOf(int k) {
            return isPin(k) ? shift[k] : 0;
        }

        int boardOf(int k) {
            return k >= 0 && k < PINS ? HOME_BOARD[k] + shift[k] : 0;
        }

        /** Makes a pin that has not fallen lean by v, and answers how it leaned. */
        int makeLean(int k, int v) {
            int before = leaningOf(k);
            if (isUp(k)) {
                leaning[k] = v;
            }
            return before;
        }

        void meetBall(int board, int drift) {
            wentLeft = 0;
            wentRight = 0;
            int pushed = 0;
            int first = 0;
            for (int row = 0; row < ROWS; row++) {
                int place = board + drift * row + pushed;
                int behind = first + row + 1;
                for (int k = first; k < behind; k++) {
                    pushed += meet(k, place);
                }
                for (int k = first; k < behind; k++) {
                    pushBehind(k, k + row + 1);
                }
                first = behind;
            }
        }

        /** Lets the ball meet a pin, and answers how it is pushed by that. */
        private int meet(int k, int place) {
            if (!isUp(k)) {
                return 0;
            }
            int off = boardOf(k) - place;
            if (off >= -3 && off <= 3) {
                leanMore(k, FALLEN, off);
                return Integer.compare(0, off);
            }
            if (off == 4 || off == -4) {
                int moved = off > 0 ? shift[k] + 1 : shift[k] - 1;
                shift[k] = Math.max(-MOST_SHIFT, Math.min(MOST_SHIFT, moved));
                leanMore(k, 1, off);
            }
            return 0;
        }

        /**
         * Lets the pin k, if it fell by this ball, push those behind it: left, and the next one.
         * Behind the row 3 there are none.
         */
        private void pushBehind(int k, int left) {
            if ((wentLeft >> k & 1) != 0) {
                leanMore(left, 2, -1);
            }
            if ((wentRight >> k & 1) != 0) {
                leanMore(left + 1, 2, 1);
            }
        }

        /** A pin that falls goes to the left if way is less than 0, to the right if greater, to both if 0. */
        private void leanMore(int k, int more, int way) {
            if (k < 0 || k >= PINS || leaning[k] >= FALLEN) {
                return;
            }
            if (leaning[k] + more <= MOST_LEANING) {
                leaning[k] += more;
                return;
            }
            leaning[k] = FALLEN;
            if (way <= 0) {
                wentLeft |= 1 << k;
            }
            if (way >= 0) {
                wentRight |= 1 << k;
            }
        }

        /** Tells the pins behind a roll, and answers the set of those not told as standing any more. */
        int tell(int most) {
            int lost = told & moreThan(most);
            told &= ~lost;
            return lost;
        }

        /** Sets the pins again in the middle of a frame, and answers how many dropped. */
        int setAgain(int most) {
            int dropping = dropSet(most);
            told &= ~dropping;
            for (int k = 0; k < PINS; k++) {
                leaning[k] = (told >> k & 1) != 0 ? 0 : FALLEN;
            }
            return Integer.bitCount(dropping);
        }

        int toldSet() {
            return told;
        }

        int fellSet() {
            return wentLeft | wentRight;
        }

        int upSet() {
            return ALL_PINS & ~moreThan(MOST_LEANING);
        }

        int leaningSet() {
            return upSet() & moreThan(0);
        }

        /** The pins told as standing that the grips do not hold. */
        int dropSet(int most) {
            return told & moreThan(most);
        }

        /** The pins that lean by more than most, and all that have fallen. */
        private int moreThan(int most) {
            int more = 0;
            for (int k = 0; k < PINS; k++) {
                if (leaning[k] > most) {
                    more |= 1 << k;
                }
            }
            return more;
        }
    }

    /** What the rolls of a game took, by frames. */
    private static final class Sheet {
        private final int[] taken;
        /** The first roll of each frame up to the present one; behind the frames, the end of the game. */
        private final int[] start;
        private int rolls;
        private int frame;

        Sheet() {
            taken = new int[MOST_ROLLS];
            start = new int[FRAMES + 1];
        }

        void clear() {
            rolls = 0;
            frame = 0;
        }

        void copyFrom(Sheet other) {
            for (int i = 0; i < MOST_ROLLS; i++) {
                taken[i] = other.taken[i];
            }
            for (int f = 0; f <= FRAMES; f++) {
                start[f] = other.start[f];
            }
            rolls = other.rolls;
            frame = other.frame;
        }

        int rolls() {
            return rolls;
        }

        int frameNow() {
            return frame;
        }

        boolean isOver() {
            return frame >= FRAMES;
        }

        /** What a roll took; one that has not been done counts 0. */
        int takenBy(int i) {
            return i >= 0 && i < rolls && i < MOST_ROLLS ? taken[i] : 0;
        }

        private int startOf(int f) {
            return f >= 0 && f <= FRAMES && f <= frame ? start[f] : rolls;
        }

        int rollsIn(int f) {
            return startOf(f + 1) - startOf(f);
        }

        int markOf(int f) {
            int first = startOf(f);
            if (takenBy(first) == PINS) {
                return STRIKE;
            }
            return takenBy(first) + takenBy(first + 1) == PINS ? SPARE : 0;
        }

        /** Both marks count three rolls in all, also those that the frame 9 has itself. */
        int pointsOf(int f) {
            int first = startOf(f);
            int points = takenBy(first) + takenBy(first + 1);
            return markOf(f) == 0 ? points : points + takenBy(first + 2);
        }

        int allPoints() {
            int points = 0;
            for (int f = 0; f < FRAMES; f++) {
                points += pointsOf(f);
            }
            return points;
        }

        void add(int takes) {
            if (frame < 0 || frame >= FRAMES || rolls < 0 || rolls >= MOST_ROLLS) {
                return;
            }
            taken[rolls] = takes;
            rolls++;
            int mark = markOf(frame);
            int due = frame == LAST_FRAME ? (mark == 0 ? 2 : 3) : (mark == STRIKE ? 1 : 2);
            if (rollsIn(frame) >= due) {
                frame++;
                start[frame] = rolls;
            }
        }

        /** Whether the roll that comes has a new rack: it begins a frame, or the last one took all pins. */
        boolean wantsNewRack() {
            return !isOver()
                    && (rollsIn(frame) == 0 || takenBy(rolls - 1) == PINS || markOf(frame) == SPARE);
        }
    }

    /** All that actions change and undo brings back. */
    private static final class State {
        private final Pins pins;
        private final Sheet sheet;
        private final int[] settings;
        private int stopped;
        private int dropped;
        private int fouls;

        State() {
            pins = new Pins();
            sheet = new Sheet();
            settings = new int[SETTINGS];
            firstSettings();
        }

        private void firstSettings() {
            settings[WAIT] = 18;
            settings[TOLD_LEANING] = 2;
            settings[GRIP_LEANING] = 1;
        }

        void renew() {
            pins.newRack();
            sheet.clear();
            firstSettings();
            stopped = 0;
            dropped = 0;
            fouls = 0;
        }

        void copyFrom(State other) {
            pins.copyFrom(other.pins);
            sheet.copyFrom(other.sheet);
            for (int i = 0; i < SETTINGS; i++) {
                settings[i] = other.settings[i];
            }
            stopped = other.stopped;
            dropped = other.dropped;
            fouls = other.fouls;
        }

        int settingAt(int what) {
            return isSetting(what) ? settings[what] : 0;
        }

        int change(int what, int v) {
            int before = settingAt(what);
            if (isSetting(what)) {
                settings[what] = v;
            }
            return before;
        }

        int beginGame() {
            int points = sheet.allPoints();
            pins.newRack();
            sheet.clear();
            return points;
        }

        boolean stops(int speed) {
            return speed < 1 || BALL_TICKS / speed > settings[WAIT];
        }

        int bowl(int board, int drift, int speed, boolean foul) {
            if (stops(speed)) {
                stopped++;
                return NONE;
            }
            int takes = 0;
            // Behind a foul all pins are as they were, also how they are told: the ball is as good as none.
            if (foul) {
                fouls++;
            } else {
                pins.meetBall(board, drift);
                takes = Integer.bitCount(pins.tell(settings[TOLD_LEANING]));
            }
            sheet.add(takes);
            if (sheet.wantsNewRack()) {
                pins.newRack();
            } else if (!sheet.isOver()) {
                dropped += pins.setAgain(settings[GRIP_LEANING]);
            }
            return takes;
        }

        /** Does what the method roll does, and answers whether that would throw no exception. */
        boolean tryRoll(int board, int drift, int speed, boolean foul) {
            boolean can = isBall(board, drift) && isSpeed(speed) && !sheet.isOver();
            if (can) {
                bowl(board, drift, speed, foul);
            }
            return can;
        }

        boolean tryTouch(int k, int v) {
            boolean can = isLeaning(v) && pins.isUp(k);
            if (can) {
                pins.makeLean(k, v);
            }
            return can;
        }

        boolean trySet(int what, int v) {
            boolean can = isSetting(what) && isValue(what, v);
            if (can) {
                change(what, v);
            }
            return can;
        }
    }

    /** The commands of a script, each a group of five decimal digits. */
    private static final class Script {
        static final long GROUP = 100000;

        /** What 1 in the group ahead of the last n groups of a script, of at most three, stands for. */
        static long unitOf(int n) {
            return n <= 0 ? 1 : n == 1 ? GROUP : n == 2 ? GROUP * GROUP : GROUP * GROUP * GROUP;
        }

        /** Does a command on the state, and answers whether it succeeds. */
        static boolean succeeds(State state, int group) {
            int d2 = group / 1000 % 10;
            int d3 = group / 100 % 10;
            int d4 = group / 10 % 10;
            int d5 = group % 10;
            switch (group / 10000) {
                case 1: return d5 == 0 && state.tryRoll(10 * d2 + d3, d4 - 2, HIGHEST_SPEED, false);
                case 2: return d5 == 0 && state.tryRoll(10 * d2 + d3, d4 - 2, HIGHEST_SPEED, true);
                case 3: return d4 == 0 && d5 == 0 && state.tryTouch(d2, d3);
                case 4: return d5 == 0 && state.trySet(d2, 10 * d3 + d4);
                case 5: return group == 50000 && begins(state);
                case 6: return d2 == 0 && d3 == 0 && Integer.bitCount(state.pins.toldSet()) <= 10 * d4 + d5;
                case 7: return d4 == 0 && d5 == 0 && state.pins.leaningOf(d2) == d3;
                case 8: return d2 == 0 && state.sheet.allPoints() >= 100 * d3 + 10 * d4 + d5;
                case 9: return d3 == 0 && d4 == 0 && state.sheet.markOf(d2) == d5;
                default: return false;
            }
        }

        private static boolean begins(State state) {
            state.beginGame();
            return true;
        }
    }

    /** The states ahead of the last actions, in rows that are used again and again. */
    private static final class History {
        private final State[] states;
        private int size;
        private int next;

        History() {
            states = new State[MOST_REMEMBERED];
            for (int i = 0; i < MOST_REMEMBERED; i++) {
                states[i] = new State();
            }
        }

        boolean isEmpty() {
            return size == 0;
        }

        void forget() {
            size = 0;
        }

        void remember(State state) {
            states[Math.floorMod(next, MOST_REMEMBERED)].copyFrom(state);
            next = Math.floorMod(next + 1, MOST_REMEMBERED);
            size = Math.min(size + 1, MOST_REMEMBERED);
        }

        /** Brings the newest state back, and answers how many are still remembered. */
        int takeBack(State into) {
            next = Math.floorMod(next - 1, MOST_REMEMBERED);
            size = Math.max(size - 1, 0);
            into.copyFrom(states[next]);
            return size;
        }
    }

    private static final class Slots {
        private final State[] states;
        private final boolean[] kept;

        Slots() {
            states = new State[SLOTS];
            kept = new boolean[SLOTS];
            for (int i = 0; i < SLOTS; i++) {
                states[i] = new State();
            }
        }

        void forget() {
            for (int i = 0; i < SLOTS; i++) {
                kept[i] = false;
            }
        }

        boolean isKept(int slot) {
            return isSlot(slot) && kept[slot];
        }

        void keep(int slot, State state) {
            if (isSlot(slot)) {
                states[slot].copyFrom(state);
                kept[slot] = true;
            }
        }

        void giveBack(int slot, State into) {
            if (isKept(slot)) {
                into.copyFrom(states[slot]);
            }
        }
    }

    /** The text buffer, and the game that it may be. */
    private static final class GameText {
        /** Two digits of a board, a letter, two digits of a speed; then perhaps the letter f. */
        private static final int ROLL_SIGNS = 5;
        private static final int NO_DRIFT = 3;

        private final int[] signs;
        private int length;

        GameText() {
            signs = new int[MOST_TEXT];
        }

        boolean isFull() {
            return length >= MOST_TEXT;
        }

        int add(int c) {
            if (length >= 0 && length < MOST_TEXT) {
                signs[length] = c;
                length++;
            }
            return length;
        }

        int empty() {
            int before = length;
            length = 0;
            return before;
        }

        /** The sign at an index; NONE, which no rule allows, where there is none. */
        private int signAt(int i) {
            return i >= 0 && i < length && i < MOST_TEXT ? signs[i] : NONE;
        }

        int firstError() {
            if (signAt(0) != 'P') {
                return 0;
            }
            int place = 0;
            for (int i = 1; i < length; i++) {
                if (isFoulAt(i) && place == 0) {
                    continue;
                }
                if (!isAllowed(place, signAt(i), signAt(i - 1))) {
                    return i;
                }
                place = place == ROLL_SIGNS - 1 ? 0 : place + 1;
            }
            return place == 0 ? NONE : length;
        }

        /** Whether an f stands there behind a digit. Where a roll may begin, that digit ends a speed. */
        private boolean isFoulAt(int i) {
            return signAt(i) == 'f' && isBetween(signAt(i - 1), '0', '9');
        }

        /** Whether c may stand at a place of a roll, 0 to 4, behind the sign before. */
        private static boolean isAllowed(int place, int c, int before) {
            switch (place) {
                case 0: return isBetween(c, '0', '4');
                case 1: return isBetween(c, '0', before == '4' ? '0' : '9');
                case 2: return driftOf(c) != NO_DRIFT;
                case 3: return isBetween(c, '0', '3');
                default: return isBetween(c, before == '0' ? '1' : '0', before == '3' ? '0' : '9');
            }
        }

        private static boolean isBetween(int c, int low, int high) {
            return c >= low && c <= high;
        }

        private static int driftOf(int c) {
            switch (c) {
                case 'l': return -2;
                case 'k': return -1;
                case 'm': return 0;
                case 'r': return 1;
                case 's': return 2;
                default: return NO_DRIFT;
            }
        }

        /** Does the rolls of a text that is a game, and answers how many are left out. */
        int playOn(State state) {
            int leftOut = 0;
            int i = 1;
            while (i < length) {
                int board = numberAt(i);
                int drift = driftOf(signAt(i + 2));
                int speed = numberAt(i + 3);
                i += ROLL_SIGNS;
                boolean foul = isFoulAt(i);
                if (foul) {
                    i++;
                }
                if (!state.tryRoll(board, drift, speed, foul)) {
                    leftOut++;
                }
            }
            return leftOut;
        }

        private int numberAt(int i) {
            return 10 * (signAt(i) - '0') + signAt(i + 1) - '0';
        }
    }
}
