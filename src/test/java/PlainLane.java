import java.util.ArrayDeque;
import java.util.ArrayList;
import java.util.Arrays;
import java.util.Deque;
import java.util.List;
import java.util.regex.Matcher;
import java.util.regex.Pattern;

/** The document once more, written another way, slowly and with the whole library: what PinDeck is compared with. */
final class PlainLane {
    static final class Pin {
        int row;
        int index;
        int shift;
        int lean;
        boolean fallen;
        boolean told = true;
        String way = "";

        int board() {
            return 20 - 3 * row + 6 * index + shift;
        }
    }

    static final class World {
        List<Pin> pins = rack();
        List<List<Integer>> frames = new ArrayList<>(List.of(new ArrayList<>()));
        boolean over;
        int[] settings = {18, 2, 1};
        int stopped;
        int dropped;
        int fouls;

        World copy() {
            World w = new World();
            w.pins = copyOf(pins);
            w.frames = new ArrayList<>();
            for (List<Integer> f : frames) {
                w.frames.add(new ArrayList<>(f));
            }
            w.over = over;
            w.settings = settings.clone();
            w.stopped = stopped;
            w.dropped = dropped;
            w.fouls = fouls;
            return w;
        }

        List<Integer> rolls() {
            List<Integer> all = new ArrayList<>();
            frames.forEach(all::addAll);
            return all;
        }

        int frameNow() {
            return over ? 10 : frames.size() - 1;
        }

        List<Integer> rollsOf(int f) {
            return f < frames.size() ? frames.get(f) : List.of();
        }

        int mark(int f) {
            List<Integer> r = rollsOf(f);
            if (!r.isEmpty() && r.get(0) == 10) {
                return 1;
            }
            return r.size() > 1 && r.get(0) + r.get(1) == 10 ? 2 : 0;
        }

        int points(int f) {
            List<Integer> next = new ArrayList<>();
            for (int g = f + 1; g < frames.size(); g++) {
                next.addAll(frames.get(g));
            }
            int sum = 0;
            for (int t : rollsOf(f)) {
                sum += t;
            }
            int bonus = f == 9 ? 0 : mark(f) == 1 ? 2 : mark(f) == 2 ? 1 : 0;
            for (int i = 0; i < bonus && i < next.size(); i++) {
                sum += next.get(i);
            }
            return sum;
        }

        int total() {
            int sum = 0;
            for (int f = 0; f < 10; f++) {
                sum += points(f);
            }
            return sum;
        }

        int roll(int board, int drift, int speed, boolean foul) {
            if (90 / speed > settings[0]) {
                stopped++;
                return -1;
            }
            List<Pin> before = copyOf(pins);
            int takes = ball(pins, board, drift, settings[1]).size();
            if (foul) {
                pins = before;
                takes = 0;
                fouls++;
            }
            score(takes);
            return takes;
        }

        void score(int takes) {
            List<Integer> f = frames.get(frames.size() - 1);
            f.add(takes);
            int number = frames.size() - 1;
            if (number < 9) {
                if (f.size() == 2 || takes == 10) {
                    frames.add(new ArrayList<>());
                    pins = rack();
                } else {
                    setAgain();
                }
                return;
            }
            boolean third = mark(9) != 0;
            if (f.size() == 3 || f.size() == 2 && !third) {
                over = true;
            } else if (f.size() == 1 && takes == 10 || f.size() == 2 && (mark(9) == 2 || takes == 10)) {
                pins = rack();
            } else {
                setAgain();
            }
        }

        void setAgain() {
            for (Pin p : pins) {
                if (p.told && p.lean > settings[2]) {
                    p.told = false;
                    dropped++;
                }
                if (p.told) {
                    p.lean = 0;
                } else {
                    p.fallen = true;
                }
            }
        }

        int begin() {
            int points = total();
            pins = rack();
            frames = new ArrayList<>(List.of(new ArrayList<>()));
            over = false;
            return points;
        }

        int touch(int k, int v) {
            int was = pins.get(k).lean;
            pins.get(k).lean = v;
            return was;
        }

        int set(int what, int v) {
            int was = settings[what];
            settings[what] = v;
            return was;
        }
    }

    static List<Pin> rack() {
        List<Pin> all = new ArrayList<>();
        for (int row = 0; row < 4; row++) {
            for (int index = 0; index <= row; index++) {
                Pin p = new Pin();
                p.row = row;
                p.index = index;
                all.add(p);
            }
        }
        return all;
    }

    static List<Pin> copyOf(List<Pin> pins) {
        List<Pin> all = new ArrayList<>();
        for (Pin p : pins) {
            Pin q = new Pin();
            q.row = p.row;
            q.index = p.index;
            q.shift = p.shift;
            q.lean = p.lean;
            q.fallen = p.fallen;
            q.told = p.told;
            all.add(q);
        }
        return all;
    }

    /** Lets the pins meet a ball, tells them, and answers those that it takes; the ways tell which fell by it. */
    static List<Pin> ball(List<Pin> pins, int board, int drift, int tellLeaning) {
        int pushed = 0;
        for (Pin p : pins) {
            p.way = "";
        }
        for (int row = 0; row < 4; row++) {
            int place = board + drift * row + pushed;
            for (Pin p : pins) {
                if (p.row != row || p.fallen) {
                    continue;
                }
                int x = p.board();
                if (Math.abs(x - place) <= 3) {
                    p.fallen = true;
                    p.way = x == place ? "lr" : x > place ? "r" : "l";
                    pushed += x == place ? 0 : x > place ? -1 : 1;
                } else if (Math.abs(x - place) == 4) {
                    lean(p, 1, x > place ? "r" : "l");
                    p.shift += x > place ? 1 : -1;
                    p.shift = Math.min(2, Math.max(-2, p.shift));
                }
            }
            for (Pin p : pins) {
                if (p.row != row) {
                    continue;
                }
                for (char side : p.way.toCharArray()) {
                    int index = side == 'l' ? p.index : p.index + 1;
                    for (Pin q : pins) {
                        if (q.row == row + 1 && q.index == index && !q.fallen) {
                            lean(q, 2, String.valueOf(side));
                        }
                    }
                }
            }
        }
        List<Pin> takes = new ArrayList<>();
        for (Pin p : pins) {
            if (p.told && (p.fallen || p.lean > tellLeaning)) {
                p.told = false;
                takes.add(p);
            }
        }
        return takes;
    }

    static void lean(Pin p, int by, String way) {
        if (p.lean + by > 3) {
            p.fallen = true;
            p.way = way;
        } else {
            p.lean += by;
        }
    }

    World now = new World();
    Deque<World> remembered = new ArrayDeque<>();
    World[] slots = new World[2];
    String text = "";

    static void index(boolean good) {
        if (!good) {
            throw new IndexOutOfBoundsException();
        }
    }

    static void argument(boolean good) {
        if (!good) {
            throw new IllegalArgumentException();
        }
    }

    static void state(boolean good) {
        if (!good) {
            throw new IllegalStateException();
        }
    }

    static boolean in(long v, long low, long high) {
        return v >= low && v <= high;
    }

    void remember() {
        remembered.addLast(now.copy());
        if (remembered.size() > 14) {
            remembered.removeFirst();
        }
    }

    int append(int c) {
        argument(in(c, 0, 255));
        state(text.length() < 120);
        text += (char) c;
        return text.length();
    }

    int clearText() {
        int was = text.length();
        text = "";
        return was;
    }

    static final String ROLL = "(?:[0-3][0-9]|40)[lkmrs](?:0[1-9]|[12][0-9]|30)f?";
    static final Pattern GAME = Pattern.compile("P(?:" + ROLL + ")*");

    /** Whether the first n characters can be made into a game by more characters. */
    boolean canGoOn(int n) {
        Matcher m = GAME.matcher(text.substring(0, n));
        return m.matches() || m.hitEnd();
    }

    int errorPosition() {
        if (GAME.matcher(text).matches()) {
            return -1;
        }
        for (int i = 0; i < text.length(); i++) {
            if (!canGoOn(i + 1)) {
                return i;
            }
        }
        return text.length();
    }

    int load() {
        state(errorPosition() == -1);
        now = new World();
        remembered.clear();
        Arrays.fill(slots, null);
        Matcher m = Pattern.compile(ROLL).matcher(text.substring(1));
        int left = 0;
        while (m.find()) {
            String r = m.group();
            if (now.over) {
                left++;
            } else {
                now.roll(Integer.parseInt(r.substring(0, 2)), "lkmrs".indexOf(r.charAt(2)) - 2,
                        Integer.parseInt(r.substring(3, 5)), r.endsWith("f"));
            }
        }
        return left;
    }

    int about(int what) {
        argument(in(what, 0, 9));
        int told = 0;
        int up = 0;
        for (Pin p : now.pins) {
            told += p.told ? 1 : 0;
            up += p.fallen ? 0 : 1;
        }
        return new int[] {now.frameNow(), now.over ? 0 : now.rollsOf(now.frameNow()).size(), now.rolls().size(),
            now.total(), now.stopped, now.dropped, now.fouls, told, up, now.over ? 1 : 0}[what];
    }

    int pin(int k, int what) {
        index(in(k, 0, 9));
        argument(in(what, 0, 3));
        Pin p = now.pins.get(k);
        return new int[] {p.fallen ? 4 : p.lean, p.shift, p.board(), p.told ? 1 : 0}[what];
    }

    int frame(int f, int what) {
        index(in(f, 0, 9));
        argument(in(what, 0, 2));
        return new int[] {now.rollsOf(f).size(), now.points(f), now.mark(f)}[what];
    }

    int taken(int i) {
        index(in(i, 0, now.rolls().size() - 1));
        return now.rolls().get(i);
    }

    int setting(int what) {
        argument(in(what, 0, 2));
        return now.settings[what];
    }

    int begin() {
        remember();
        return now.begin();
    }

    static void checkRoll(World w, int board, int drift, int speed) {
        argument(in(board, 0, 40) && in(drift, -2, 2) && in(speed, 1, 30));
        state(!w.over);
    }

    int roll(int board, int drift, int speed, boolean foul) {
        checkRoll(now, board, drift, speed);
        remember();
        return now.roll(board, drift, speed, foul);
    }

    static void checkTouch(World w, int k, int v) {
        index(in(k, 0, 9));
        argument(in(v, 0, 3));
        state(!w.pins.get(k).fallen);
    }

    int touch(int k, int v) {
        checkTouch(now, k, v);
        remember();
        return now.touch(k, v);
    }

    static void checkSet(int what, int v) {
        argument(in(what, 0, 2));
        argument(what == 0 ? in(v, 3, 90) : in(v, 0, 3));
    }

    int set(int what, int v) {
        checkSet(what, v);
        remember();
        return now.set(what, v);
    }

    int undo() {
        state(!remembered.isEmpty());
        now = remembered.removeLast();
        return remembered.size();
    }

    int would(int board, int drift, int what) {
        argument(in(board, 0, 40) && in(drift, -2, 2) && in(what, 0, 3));
        List<Pin> pins = copyOf(now.pins);
        List<Pin> takes = ball(pins, board, drift, now.settings[1]);
        int fell = 0;
        int leaning = 0;
        int up = 0;
        for (int k = 0; k < 10; k++) {
            Pin p = pins.get(k);
            if (!p.way.isEmpty()) {
                fell += 1 << k;
            }
            if (!p.fallen && p.lean > 0) {
                leaning += 1 << k;
            }
            if (takes.contains(p) && !p.fallen) {
                up++;
            }
        }
        return new int[] {fell, leaning, takes.size(), up}[what];
    }

    int bestBoard(int drift) {
        argument(in(drift, -2, 2));
        int best = 40;
        for (int board = 40; board >= 0; board--) {
            if (would(board, drift, 2) >= would(best, drift, 2)) {
                best = board;
            }
        }
        return best;
    }

    int slowest() {
        for (int speed = 1; speed <= 30; speed++) {
            if (90 / speed <= now.settings[0]) {
                return speed;
            }
        }
        return 0;
    }

    int goesOn(int board, int drift) {
        argument(in(board, 0, 40) && in(drift, -2, 2));
        World w = now.copy();
        while (!w.over) {
            w.roll(board, drift, 30, false);
        }
        return w.total();
    }

    int drops() {
        int all = 0;
        for (int k = 0; k < 10; k++) {
            Pin p = now.pins.get(k);
            if (p.told && p.lean > now.settings[2]) {
                all += 1 << k;
            }
        }
        return all;
    }

    int runScript(int n, long script) {
        argument(in(n, 1, 3));
        argument(script >= 0 && String.valueOf(script).length() <= 5 * n);
        StringBuilder digits = new StringBuilder(String.valueOf(script));
        while (digits.length() < 5 * n) {
            digits.insert(0, '0');
        }
        World w = now.copy();
        for (int i = 0; i < n; i++) {
            if (!command(w, digits.substring(5 * i, 5 * i + 5))) {
                return i;
            }
        }
        return -1;
    }

    static boolean command(World w, String c) {
        int a = c.charAt(1) - '0';
        int b = c.charAt(2) - '0';
        int d = c.charAt(3) - '0';
        try {
            if (c.matches("[12]...0")) {
                int board = Integer.parseInt(c.substring(1, 3));
                checkRoll(w, board, d - 2, 30);
                w.roll(board, d - 2, 30, c.charAt(0) == '2');
                return true;
            }
            if (c.matches("3..00")) {
                checkTouch(w, a, b);
                w.touch(a, b);
                return true;
            }
            if (c.matches("4...0")) {
                checkSet(a, Integer.parseInt(c.substring(2, 4)));
                w.set(a, Integer.parseInt(c.substring(2, 4)));
                return true;
            }
        } catch (RuntimeException e) {
            return false;
        }
        if (c.equals("50000")) {
            w.begin();
            return true;
        }
        if (c.matches("600..")) {
            return w.pins.stream().filter(p -> p.told).count() <= Integer.parseInt(c.substring(3));
        }
        if (c.matches("7..00")) {
            Pin p = w.pins.get(a);
            return b == (p.fallen ? 4 : p.lean);
        }
        if (c.matches("80...")) {
            return w.total() >= Integer.parseInt(c.substring(2));
        }
        return c.matches("9.00.") && w.mark(a) == c.charAt(4) - '0';
    }

    int simulate(long seed, int m) {
        argument(in(m, 1, 60));
        World w = now.copy();
        long x = seed;
        for (int i = 0; i < m; i++) {
            x = x * 6364136223846793005L + 1442695040888963407L;
            int r = (int) (x >>> 33);
            int q = r / 8;
            try {
                if (r % 8 == 0) {
                    checkTouch(w, q % 10, q / 16 % 4);
                    w.touch(q % 10, q / 16 % 4);
                } else if (r % 8 == 1) {
                    checkSet(1 + q % 2, q / 2 % 4);
                    w.set(1 + q % 2, q / 2 % 4);
                } else {
                    checkRoll(w, 10 + q % 21, q / 32 % 5 - 2, 1 + q / 256 % 30);
                    w.roll(10 + q % 21, q / 32 % 5 - 2, 1 + q / 256 % 30, q / 8192 % 16 == 0);
                }
            } catch (RuntimeException e) {
                continue;
            }
        }
        return 1000 * w.rolls().size() + w.total();
    }

    int save(int slot) {
        index(in(slot, 0, 1));
        slots[slot] = now.copy();
        return now.rolls().size();
    }

    int restore(int slot) {
        index(in(slot, 0, 1));
        state(slots[slot] != null);
        now = slots[slot].copy();
        remembered.clear();
        return now.rolls().size();
    }
}
