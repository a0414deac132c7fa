import java.util.ArrayDeque;
import java.util.ArrayList;
import java.util.Arrays;
import java.util.Deque;
import java.util.List;
import java.util.NoSuchElementException;
import java.util.TreeSet;
import java.util.regex.Matcher;
import java.util.regex.Pattern;

/**
 * The document once more, in the plainest and slowest way that was found, with the whole Java library: what
 * LoopsToUnits answers is compared with what this one answers. It shares no line with the program.
 */
public final class Oracle {
    static final class Operand {
        int digit = -1;
        boolean round;
        int letter = -1;
        int marks;

        int number() {
            return letter >= 0 ? 11 + letter + 30 * marks : round ? 10 : digit;
        }
    }

    static final class Act {
        char op;          // + - < * L S
        int memory = -1;
        Operand one;
        Operand two;

        boolean sum() {
            return op == '+' || op == '-' || op == '<';
        }

        boolean product() {
            return op == '*';
        }

        List<Operand> operands() {
            List<Operand> all = new ArrayList<>();
            all.add(one);
            if (two != null) {
                all.add(two);
            }
            return all;
        }
    }

    static final class World {
        List<Act> acts = new ArrayList<>();
        int[][] memory = new int[2][16];
        int[] units = {1, 1, 1, 1, 0, 0, 4, 2, 2};

        World copy() {
            World w = new World();
            w.acts = new ArrayList<>(acts);
            w.memory = new int[][] {memory[0].clone(), memory[1].clone()};
            w.units = units.clone();
            return w;
        }
    }

    World now = new World();
    StringBuilder text = new StringBuilder();
    List<Long> row = new ArrayList<>();
    Deque<World> past = new ArrayDeque<>();
    World[] slots = new World[2];

    // ---- texts

    public int sign(int v) {
        if (text.length() + 4 > 80) {
            return -1;
        }
        text.append((char) (v >> 24 & 255)).append((char) (v >> 16 & 255)).append((char) (v >> 8 & 255)).append((char) (v & 255));
        return text.length();
    }

    public boolean end(int n) {
        if (n < 0 || n > text.length()) {
            return false;
        }
        text.setLength(n);
        return true;
    }

    String taken() {
        String t = text.toString();
        text.setLength(0);
        return t;
    }

    static final class Wrong extends Exception {
        final int at;

        Wrong(int at) {
            this.at = at;
        }
    }

    /** A reader that asks for one sign of a set, or stops there. */
    static final class Feed {
        final String t;
        int p;

        Feed(String t) {
            this.t = t;
        }

        boolean more() {
            return p < t.length();
        }

        boolean sees(String set) {
            return more() && set.indexOf(t.charAt(p)) >= 0;
        }

        char want(String set) throws Wrong {
            if (!sees(set)) {
                throw new Wrong(p);
            }
            return t.charAt(p++);
        }
    }

    static final String DIGITS = "0123456789";

    static Operand operand(Feed f, int k) throws Wrong {
        int at = f.p;
        char c = f.want(DIGITS + "nabcdefghij");
        Operand o = new Operand();
        if (DIGITS.indexOf(c) >= 0) {
            o.digit = c - '0';
        } else if (c == 'n') {
            o.round = true;
        } else {
            o.letter = c - 'a';
            while (o.marks < 2 && f.sees("'")) {
                f.want("'");
                o.marks++;
            }
            if (o.marks == 0 && o.letter >= k) {
                throw new Wrong(at);
            }
        }
        return o;
    }

    static Act act(Feed f, int k) throws Wrong {
        Act a = new Act();
        if (f.sees("AB")) {
            a.memory = f.want("AB") - 'A';
            f.want("[");
            a.one = operand(f, k);
            f.want("]");
            a.op = 'L';
            if (f.sees("=")) {
                f.want("=");
                a.op = 'S';
                a.two = operand(f, k);
            }
            return a;
        }
        a.one = operand(f, k);
        a.op = f.want("+-<*");
        a.two = operand(f, k);
        return a;
    }

    public int loop() {
        Feed f = new Feed(taken());
        List<Act> acts = new ArrayList<>();
        try {
            while (f.more() || !acts.isEmpty()) {
                acts.add(act(f, acts.size()));
                if (!f.more()) {
                    break;
                }
                if (acts.size() == 10) {
                    throw new Wrong(f.p);
                }
                f.want(";");
            }
        } catch (Wrong w) {
            return -1 - w.at;
        }
        for (Act a : acts) {
            for (Operand o : a.operands()) {
                if (o.letter >= acts.size()) {
                    return -200;
                }
            }
        }
        remember();
        now.acts = acts;
        return acts.size();
    }

    void remember() {
        past.addLast(now.copy());
        while (past.size() > 9) {
            past.removeFirst();
        }
    }

    public int memory(int m) {
        String t = taken();
        int[] cells = new int[16];
        int many = 0;
        if (!t.isEmpty()) {
            Matcher whole = Pattern.compile("-?[0-9]{1,3}").matcher(t);
            int p = 0;
            while (true) {
                whole.region(p, t.length());
                if (!whole.lookingAt()) {
                    return -1 - (p < t.length() && t.charAt(p) == '-' ? p + 1 : p);
                }
                cells[many++] = Integer.parseInt(whole.group());
                p = whole.end();
                if (p == t.length()) {
                    break;
                }
                if (t.charAt(p) != ',' || many == 16) {
                    return -1 - p;
                }
                p++;
            }
        }
        if (m < 0 || m > 1) {
            return -1;
        }
        remember();
        now.memory[m] = cells;
        return many;
    }

    public int cell(int m, int x) {
        if (m < 0 || m > 1 || x < 0 || x > 15) {
            throw new NoSuchElementException();
        }
        return now.memory[m][x];
    }

    public int act(int k, int what) {
        if (k < 0 || k >= now.acts.size() || what < 0 || what > 3) {
            throw new NoSuchElementException();
        }
        Act a = now.acts.get(k);
        if (what == 0) {
            return "+-<*LS".indexOf(a.op);
        }
        if (what == 1) {
            return a.memory;
        }
        Operand o = what == 2 ? a.one : a.two;
        return o == null ? -1 : o.number();
    }

    public int sheet(int kind, int n, int f, int step) {
        if (kind < 0 || kind > 3 || n > 16) {
            return -1;
        }
        if (kind == 3) {
            now.memory[0] = new int[16];
            return -3;
        }
        if (n < 0) {
            return -2;
        }
        int[] cells = new int[16];
        int entry = f;
        for (int i = 0; i < n; i++, entry += step) {
            cells[i] = kind == 0 ? (byte) entry : kind == 1 ? (short) entry : entry;
        }
        now.memory[0] = cells;
        return (int) Arrays.stream(cells).filter(c -> c != 0).count();
    }

    // ---- changes

    static boolean unit(int what, int v) {
        String[] may = {"1 2 3 4", "1 2 3", "1 2 4", "1 2 4", "0 1", "0 1", "1 2 3 4 5 6 7 8 9 10", "1 2 3 4", "1 2 3"};
        return what >= 0 && what < 9 && Arrays.asList(may[what].split(" ")).contains(Integer.toString(v));
    }

    int set(int what, int v) {
        if (!unit(what, v)) {
            return -1;
        }
        if (now.units[what] == v) {
            return -2;
        }
        int old = now.units[what];
        now.units[what] = v;
        return old;
    }

    int write(int m, int x, int v) {
        if (m < 0 || m > 1 || x < 0 || x > 15) {
            return -1;
        }
        if (now.memory[m][x] == v) {
            return -2;
        }
        now.memory[m][x] = v;
        return 1;
    }

    public int sets(int what, int v) {
        World before = now.copy();
        int answer = set(what, v);
        if (answer >= 0) {
            World after = now;
            now = before;
            remember();
            now = after;
        }
        return answer;
    }

    public int writes(int m, int x, int v) {
        World before = now.copy();
        int answer = write(m, x, v);
        if (answer >= 0) {
            World after = now;
            now = before;
            remember();
            now = after;
        }
        return answer;
    }

    public int runs(int n) {
        if (n < 0 || n > 40) {
            return -1;
        }
        remember();
        int[] last = play(now.memory, n);
        tell(last);
        return n;
    }

    public int day() {
        String t = taken();
        String[] shapes = {"u##", "w@###", "r#"};
        List<String> changes = new ArrayList<>();
        int p = 0;
        while (p < t.length()) {
            String shape = null;
            for (String s : shapes) {
                if (s.charAt(0) == t.charAt(p)) {
                    shape = s;
                }
            }
            if (shape == null) {
                return -1 - p;
            }
            for (int i = 1; i < shape.length(); i++) {
                String set = shape.charAt(i) == '@' ? "AB" : DIGITS;
                if (p + i >= t.length() || set.indexOf(t.charAt(p + i)) < 0) {
                    return -1 - p - i;
                }
            }
            changes.add(t.substring(p, p + shape.length()));
            p += shape.length();
        }
        World before = now.copy();
        int done = 0;
        boolean stopped = false;
        for (String c : changes) {
            int answer;
            if (c.charAt(0) == 'u') {
                answer = set(c.charAt(1) - '0', c.charAt(2) - '0');
            } else if (c.charAt(0) == 'w') {
                answer = write(c.charAt(1) - 'A', Integer.parseInt(c.substring(2, 4)), c.charAt(4) - '0');
            } else {
                play(now.memory, c.charAt(1) - '0');
                answer = 0;
            }
            if (answer < 0) {
                stopped = true;
                break;
            }
            done++;
        }
        if (done > 0) {
            World after = now;
            now = before;
            remember();
            now = after;
        }
        tell(stopped ? 1 : 0);
        return done;
    }

    public int undo() {
        if (past.isEmpty()) {
            return -1;
        }
        now = past.removeLast();
        return past.size();
    }

    // ---- bounds

    void tell(int... numbers) {
        row = new ArrayList<>();
        for (int n : numbers) {
            row.add((long) n);
        }
    }

    int acts() {
        return now.acts.size();
    }

    int lasts(int k) {
        Act a = now.acts.get(k);
        return a.sum() ? now.units[6] : a.product() ? now.units[7] * 10 : a.op == 'L' ? now.units[8] * 10 : 10;
    }

    boolean may(int k, int time) {
        return time >= 0 && (now.acts.get(k).sum() ? time % 10 + now.units[6] <= 10 : time % 10 == 0);
    }

    /** The least TIME of ACT k that all BOUNDS from the others (null: not put) leave. */
    int floor(int k, Integer[] times, int g) {
        int least = Integer.MIN_VALUE;
        Act a = now.acts.get(k);
        for (Operand o : a.operands()) {
            if (o.letter >= 0 && times[o.letter] != null) {
                least = Math.max(least, times[o.letter] + lasts(o.letter) - 10 * g * o.marks);
            }
        }
        for (int i = 0; i < acts(); i++) {
            Act other = now.acts.get(i);
            if (i != k && a.memory >= 0 && a.memory == other.memory && (a.op == 'S' || other.op == 'S') && times[i] != null) {
                least = Math.max(least, times[i] + (i < k ? 10 : 10 - 10 * g));
            }
        }
        return least;
    }

    boolean holds(Integer[] times, int g) {
        for (int k = 0; k < acts(); k++) {
            if (times[k] != null && times[k] < floor(k, times, g)) {
                return false;
            }
        }
        return true;
    }

    Integer[] findEarliest(int g) {
        Integer[] times = new Integer[acts()];
        Arrays.fill(times, 0);
        boolean again = true;
        while (again) {
            again = false;
            for (int k = 0; k < acts(); k++) {
                int least = Math.max(times[k], floor(k, times, g));
                while (!may(k, least)) {
                    least++;
                }
                if (least >= 1000) {
                    return null;
                }
                again |= least > times[k];
                times[k] = least;
            }
        }
        return times;
    }

    int ticks(Integer[] times) {
        int last = 0;
        for (int k = 0; k < acts(); k++) {
            last = Math.max(last, times[k] + lasts(k));
        }
        return (last + 9) / 10;
    }

    Integer[] findLatest(int g) {
        Integer[] early = findEarliest(g);
        int length = ticks(early);
        Integer[] times = new Integer[acts()];
        for (int k = 0; k < acts(); k++) {
            times[k] = length * 10 - lasts(k);
        }
        // TIMES fall one by one while any is where it may not begin, or makes another begin too early.
        boolean again = true;
        while (again) {
            again = false;
            for (int k = 0; k < acts(); k++) {
                while (!may(k, times[k]) || pushes(k, times, g)) {
                    times[k]--;
                    again = true;
                }
            }
        }
        return times;
    }

    boolean pushes(int k, Integer[] times, int g) {
        for (int i = 0; i < acts(); i++) {
            Integer[] alone = new Integer[acts()];
            alone[k] = times[k];
            if (floor(i, alone, g) > times[i] && i != k) {
                return true;
            }
        }
        return false;
    }

    int findRings() {
        if (acts() == 0) {
            return 0;
        }
        int g = 1;
        while (findEarliest(g) == null) {
            g++;
        }
        return g;
    }

    int[] needs() {
        int[] many = new int[4];
        for (Act a : now.acts) {
            many[a.sum() ? 0 : a.product() ? 1 : 2 + a.memory]++;
        }
        for (int i = 0; i < 4; i++) {
            many[i] = (int) Math.ceil((double) many[i] / now.units[i]);
        }
        return many;
    }

    int findLeast() {
        return Math.max(findRings(), Arrays.stream(needs()).max().getAsInt());
    }

    public int least() {
        int[] n = needs();
        tell(findRings(), n[0], n[1], n[2], n[3]);
        return findLeast();
    }

    static int[] plain(Integer[] times) {
        return Arrays.stream(times).mapToInt(Integer::intValue).toArray();
    }

    public int earliest(int g) {
        if (g < 1 || g > 60) {
            return -1;
        }
        Integer[] times = findEarliest(g);
        if (times == null) {
            return -2;
        }
        tell(plain(times));
        return ticks(times);
    }

    public int latest(int g) {
        if (g < 1 || g > 60) {
            return -1;
        }
        Integer[] early = findEarliest(g);
        if (early == null) {
            return -2;
        }
        Integer[] late = findLatest(g);
        tell(plain(late));
        int same = 0;
        for (int k = 0; k < acts(); k++) {
            same += early[k].intValue() == late[k].intValue() ? 1 : 0;
        }
        return same;
    }

    public int knots() {
        int bits = 0;
        for (int k = 0; k < acts(); k++) {
            TreeSet<Integer> seen = new TreeSet<>();
            Deque<Integer> todo = new ArrayDeque<>(List.of(k));
            while (!todo.isEmpty()) {
                int from = todo.pop();
                Integer[] alone = new Integer[acts()];
                alone[from] = 100000;
                for (int i = 0; i < acts(); i++) {
                    if (floor(i, alone, 1) > 0 && seen.add(i)) {
                        todo.push(i);
                    }
                }
            }
            bits |= seen.contains(k) ? 1 << k : 0;
        }
        tell(Integer.bitCount(bits));
        return bits;
    }

    /** {0}; {1, at}; {2, in ROUND 0}. */
    int[] where(int k) {
        Act a = now.acts.get(k);
        if (a.memory < 0) {
            return new int[] {0};
        }
        if (a.one.digit >= 0) {
            return new int[] {1, a.one.digit};
        }
        if (a.one.round) {
            return new int[] {2, 0};
        }
        Act by = now.acts.get(a.one.letter);
        if (a.one.marks > 0 || by.memory >= 0) {
            return new int[] {0};
        }
        String told = (by.one.round ? "n" : by.one.digit >= 0 ? "d" : "x") + by.op
                + (by.two.round ? "n" : by.two.digit >= 0 ? "d" : "x");
        switch (told) {
            case "n+d":
                return new int[] {2, by.two.digit};
            case "d+n":
                return new int[] {2, by.one.digit};
            case "n-d":
                return new int[] {2, -by.two.digit};
            default:
                return new int[] {0};
        }
    }

    public int address(int k) {
        if (k < 0 || k >= acts()) {
            return -1;
        }
        int[] w = where(k);
        tell(Arrays.copyOfRange(w, 1, w.length));
        return w[0];
    }

    // ---- the plan

    int bank(int m, int x) {
        int banks = now.units[2 + m];
        return now.units[4 + m] == 0 ? x % banks : x / (16 / banks);
    }

    int bankIn(int k, int round) {
        int[] w = where(k);
        return bank(now.acts.get(k).memory, Math.floorMod(w[0] == 1 ? w[1] : w[1] + round, 16));
    }

    boolean room(int k, int tick, Integer[] times, int g) {
        Act a = now.acts.get(k);
        int sums = 0;
        int products = 0;
        for (int i = 0; i < acts(); i++) {
            if (times[i] == null || Math.floorMod(times[i] / 10, g) != Math.floorMod(tick, g)) {
                continue;
            }
            Act other = now.acts.get(i);
            sums += other.sum() ? 1 : 0;
            products += other.product() ? 1 : 0;
            if (a.memory >= 0 && a.memory == other.memory) {
                if (where(k)[0] == 0 || where(i)[0] == 0) {
                    return false;
                }
                int later = (tick - times[i] / 10) / g;
                for (int r = 0; r <= 15; r++) {
                    if (bankIn(k, r) == bankIn(i, r + later)) {
                        return false;
                    }
                }
            }
        }
        return a.sum() ? sums < now.units[0] : !a.product() || products < now.units[1];
    }

    Integer[] findPlan(int g) {
        Integer[] early = findEarliest(g);
        if (early == null) {
            return null;
        }
        Integer[] late = findLatest(g);
        List<Integer> order = new ArrayList<>();
        for (int k = 0; k < acts(); k++) {
            order.add(k);
        }
        order.sort((x, y) -> late[x].equals(late[y]) ? x - y : late[x] - late[y]);
        Integer[] times = new Integer[acts()];
        for (int k : order) {
            int time = Math.max(early[k], floor(k, times, g));
            while (!may(k, time)) {
                time++;
            }
            int firstTick = time / 10;
            while (time / 10 < firstTick + g && (!may(k, time) || !room(k, time / 10, times, g))) {
                time++;
            }
            if (time / 10 >= firstTick + g) {
                return null;
            }
            times[k] = time;
            if (!holds(times, g)) {
                return null;
            }
        }
        return times;
    }

    int gapOf() {
        if (acts() == 0) {
            return 0;
        }
        int g = findLeast();
        while (findPlan(g) == null) {
            g++;
        }
        return g;
    }

    Integer[] thePlan() {
        return acts() == 0 ? new Integer[0] : findPlan(gapOf());
    }

    static int[] tens(Integer[] times) {
        return Arrays.stream(times).mapToInt(t -> t / 10).toArray();
    }

    public int gap() {
        tell(tens(thePlan()));
        return gapOf();
    }

    public int begins(int k) {
        if (k < 0 || k >= acts()) {
            throw new NoSuchElementException();
        }
        return thePlan()[k];
    }

    public int why() {
        int g = gapOf();
        int[] n = needs();
        tell(g - findLeast());
        return (n[0] == g ? 1 : 0) + (n[1] == g ? 2 : 0) + (n[2] == g ? 4 : 0) + (n[3] == g ? 8 : 0) + (findRings() == g ? 16 : 0);
    }

    public int plan(int g) {
        if (g < 1 || g > 60) {
            return -1;
        }
        Integer[] times = findPlan(g);
        if (times == null) {
            return 0;
        }
        tell(tens(times));
        return 1;
    }

    public int length() {
        int ticks = ticks(thePlan());
        tell(acts() == 0 ? 0 : (int) Math.ceil((double) ticks / gapOf()));
        return ticks;
    }

    public int state(int t) {
        if (t < 0 || t >= gapOf()) {
            return -1;
        }
        Integer[] times = thePlan();
        int bits = 0;
        for (int k = 0; k < acts(); k++) {
            bits += times[k] / 10 % gapOf() == t ? 1 << k : 0;
        }
        return bits;
    }

    public int tick(int t, int n) {
        if (t < 0 || n < 0 || n > 40) {
            return -1;
        }
        Integer[] times = thePlan();
        int g = gapOf();
        int bits = 0;
        int[] rounds = new int[acts()];
        Arrays.fill(rounds, -1);
        for (int r = 0; r < n; r++) {
            for (int k = 0; k < acts(); k++) {
                if (times[k] / 10 + r * g == t) {
                    bits |= 1 << k;
                    rounds[k] = r;
                }
            }
        }
        tell(rounds);
        return bits;
    }

    public int registers() {
        Integer[] times = thePlan();
        int g = gapOf();
        int most = -1;
        int first = -1;
        for (int t = 0; t < g; t++) {
            int kept = 0;
            for (int k = 0; k < acts(); k++) {
                for (int r = -200; r <= 200; r++) {
                    int ready = times[k] + lasts(k) + r * g * 10;
                    int use = Integer.MIN_VALUE;
                    for (int i = 0; i < acts(); i++) {
                        for (Operand o : now.acts.get(i).operands()) {
                            if (o.letter == k) {
                                use = Math.max(use, times[i] + (r + o.marks) * g * 10);
                            }
                        }
                    }
                    kept += ready <= t * 10 && t * 10 <= use ? 1 : 0;
                }
            }
            if (kept > most) {
                most = kept;
                first = t;
            }
        }
        if (first < 0) {
            tell();
            return 0;
        }
        tell(first);
        return most;
    }

    public int binds(int what) {
        if (what != 0 && what != 1) {
            return -1;
        }
        Integer[] times = thePlan();
        int g = gapOf();
        List<Integer> mine = new ArrayList<>();
        for (int k = 0; k < acts(); k++) {
            if (what == 0 ? now.acts.get(k).sum() : now.acts.get(k).product()) {
                mine.add(k);
            }
        }
        int units = now.units[what];
        int[] best = null;
        int fewest = Integer.MAX_VALUE;
        int all = (int) Math.pow(units, mine.size());
        int[] row = new int[mine.size()];
        for (int code = 0; code < all; code++) {
            int rest = code;
            for (int i = row.length - 1; i >= 0; i--) {
                row[i] = rest % units;
                rest /= units;
            }
            int cost = switches(mine, row, units, times, g);
            if (cost >= 0 && cost < fewest) {
                fewest = cost;
                best = row.clone();
            }
        }
        tell(best);
        return fewest;
    }

    int switches(List<Integer> mine, int[] row, int units, Integer[] times, int g) {
        for (int i = 0; i < row.length; i++) {
            for (int j = 0; j < i; j++) {
                if (row[i] == row[j] && times[mine.get(i)] / 10 % g == times[mine.get(j)] / 10 % g) {
                    return -1;
                }
            }
        }
        int cost = 0;
        for (int u = 0; u < units; u++) {
            TreeSet<Integer> ones = new TreeSet<>();
            TreeSet<Integer> twos = new TreeSet<>();
            for (int i = 0; i < row.length; i++) {
                if (row[i] == u) {
                    ones.add(now.acts.get(mine.get(i)).one.number());
                    twos.add(now.acts.get(mine.get(i)).two.number());
                }
            }
            cost += Math.max(0, ones.size() - 1) + Math.max(0, twos.size() - 1);
        }
        return cost;
    }

    public int shares(int m) {
        if (m < 0 || m > 1) {
            return -1;
        }
        Integer[] times = thePlan();
        int g = gapOf();
        List<int[]> pairs = new ArrayList<>();
        for (int i = 0; i < acts(); i++) {
            for (int j = i + 1; j < acts(); j++) {
                if (now.acts.get(i).memory == m && now.acts.get(j).memory == m && times[i] / 10 % g == times[j] / 10 % g) {
                    pairs.add(new int[] {i, j});
                }
            }
        }
        tell(pairs.isEmpty() ? new int[0] : pairs.get(0));
        return pairs.size();
    }

    // ---- played

    static int value(Operand o, int round, List<int[]> values) {
        if (o.digit >= 0) {
            return o.digit;
        }
        if (o.round) {
            return round;
        }
        return round - o.marks < 0 ? 0 : values.get(round - o.marks)[o.letter];
    }

    static int result(Act a, int round, List<int[]> values, int[][] memory) {
        int one = value(a.one, round, values);
        int two = a.two == null ? 0 : value(a.two, round, values);
        switch (a.op) {
            case '+':
                return one + two;
            case '-':
                return one - two;
            case '<':
                return one < two ? 1 : 0;
            case '*':
                return one * two;
            case 'L':
                return memory[a.memory][Math.floorMod(one, 16)];
            default:
                return two;
        }
    }

    int[] play(int[][] memory, int n) {
        List<int[]> values = new ArrayList<>();
        for (int r = 0; r < n; r++) {
            values.add(new int[acts()]);
            for (int k = 0; k < acts(); k++) {
                Act a = now.acts.get(k);
                values.get(r)[k] = result(a, r, values, memory);
                if (a.op == 'S') {
                    memory[a.memory][Math.floorMod(value(a.one, r, values), 16)] = values.get(r)[k];
                }
            }
        }
        return n == 0 ? new int[acts()] : values.get(n - 1);
    }

    static int sum(int[][] memory) {
        return Arrays.stream(memory[0]).sum() + Arrays.stream(memory[1]).sum();
    }

    public int plays(int n) {
        if (n < 0 || n > 40) {
            return -1;
        }
        int[][] memory = now.copy().memory;
        tell(play(memory, n));
        return sum(memory);
    }

    public int machine(int n) {
        if (n < 0 || n > 40) {
            return -1;
        }
        Integer[] times = thePlan();
        int g = gapOf();
        int[][] memory = now.copy().memory;
        List<int[]> values = new ArrayList<>();
        List<int[]> events = new ArrayList<>(); // time, sort (writes last in their TICK), round, act
        int last = 0;
        for (int r = 0; r < n; r++) {
            values.add(new int[acts()]);
            for (int k = 0; k < acts(); k++) {
                int time = times[k] + r * g * 10;
                events.add(new int[] {time, 0, r, k});
                if (now.acts.get(k).op == 'S') {
                    events.add(new int[] {time + 9, 1, r, k});
                }
                last = Math.max(last, time + lasts(k));
            }
        }
        events.sort((x, y) -> x[0] != y[0] ? x[0] - y[0] : x[1] - y[1]);
        for (int[] e : events) {
            Act a = now.acts.get(e[3]);
            if (e[1] == 0) {
                values.get(e[2])[e[3]] = result(a, e[2], values, memory);
            } else {
                memory[a.memory][Math.floorMod(value(a.one, e[2], values), 16)] = values.get(e[2])[e[3]];
            }
        }
        tell(n == 0 ? new int[acts()] : values.get(n - 1));
        row.add((long) sum(memory));
        return (last + 9) / 10;
    }

    public int saves(int n) {
        if (n < 0 || n > 40) {
            return -1;
        }
        List<Long> before = row;
        int answer = 1000 + n * ticks(thePlan()) - machine(n);
        row = before;
        return answer;
    }

    // ---- other units

    public int cheapest(int g) {
        if (g < 1 || g > 60) {
            return -1;
        }
        int[] before = now.units.clone();
        int best = Integer.MAX_VALUE;
        int[] bestRow = null;
        for (int a = 1; a <= 4; a++) {
            for (int m = 1; m <= 3; m++) {
                for (int ba : new int[] {1, 2, 4}) {
                    for (int bb : new int[] {1, 2, 4}) {
                        int cost = a + 3 * m + ba + bb;
                        if (cost >= best) {
                            continue;
                        }
                        now.units[0] = a;
                        now.units[1] = m;
                        now.units[2] = ba;
                        now.units[3] = bb;
                        if (findLeast() <= g && gapOf() <= g) {
                            best = cost;
                            bestRow = new int[] {a, m, ba, bb};
                        }
                    }
                }
            }
        }
        now.units = before;
        if (bestRow == null) {
            return -2;
        }
        tell(bestRow);
        return best;
    }

    public int would(int what, int v) {
        if (!unit(what, v)) {
            return -1;
        }
        if (now.units[what] == v) {
            return -2;
        }
        int g = gapOf();
        int old = now.units[what];
        now.units[what] = v;
        int then = gapOf();
        now.units[what] = old;
        tell(g - then);
        return then;
    }

    int drawn;

    int draw(int n) {
        drawn = drawn * 1103515245 + 12345;
        return (int) (Integer.toUnsignedLong(drawn) / 65536 % n);
    }

    public int years(int seed, int n) {
        if (n < 1 || n > 20) {
            return -1;
        }
        drawn = seed;
        for (int i = 0; i < n; i++) {
            int what = draw(6);
            int[] most = {4, 3, 3, 3, 10, 4};
            int v = draw(most[what]);
            int[] banks = {1, 2, 4};
            now.units[what < 4 ? what : what + 2] = what == 2 || what == 3 ? banks[v] : v + 1;
        }
        int[] u = now.units;
        tell(ticks(thePlan()), u[0] + 3 * u[1] + u[2] + u[3]);
        return gapOf();
    }

    // ---- kept

    public boolean keep(int i) {
        if (i != 0 && i != 1) {
            return false;
        }
        slots[i] = now.copy();
        return true;
    }

    public boolean again(int i) {
        if (i != 0 && i != 1 || slots[i] == null) {
            return false;
        }
        now = slots[i].copy();
        past.clear();
        return true;
    }

    public int count(int what) {
        int[] sorts = new int[5];
        sorts[0] = acts();
        for (Act a : now.acts) {
            sorts[a.sum() ? 1 : a.product() ? 2 : a.op == 'L' ? 3 : 4]++;
        }
        if (what >= 0 && what <= 4) {
            return sorts[what];
        }
        if (what >= 5 && what <= 13) {
            return now.units[what - 5];
        }
        return what == 14 ? past.size() : what == 15 ? row.size() : what == 16 ? text.length() : -1;
    }

    public long row(int i) {
        if (i < 0 || i >= row.size()) {
            throw new NoSuchElementException();
        }
        return row.get(i);
    }
}
