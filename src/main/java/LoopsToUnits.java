import java.util.Arrays;
import java.util.NoSuchElementException;

/**
 * A loop that is told as a text, made to a machine of adders, multipliers and banks.
 * Words in capitals (ACT, TICK, GAP, ..) are those of the document's terms.
 */
public final class LoopsToUnits {
    public static final int NONE = -1;

    /** It is so already, or there is none such. */
    private static final int IN_VAIN = -2;
    private static final int MISSING = -3;
    private static final int NO_SUCH_LETTER = -200;

    private static final int MOST_ACTS = 10;
    private static final int MOST_SIGNS = 80;
    private static final int MOST_ROUNDS = 40;
    private static final int MOST_UNDONE = 9;
    private static final int MOST_YEARS = 20;
    private static final int MEMORIES = 2;
    private static final int CELLS = 16;
    private static final int SLOTS = 2;

    /** No ring is longer than 10 ACTS of 4 TICKS, and no ACT waits for more than 9 others: by 60 there is a PLAN. */
    private static final int MOST_GAP = 60;
    private static final int PARTS = 10;

    /** Two OPERANDS of each ACT, and both ways of each pair at one MEMORY. */
    private static final int MOST_BOUNDS = 2 * MOST_ACTS + MOST_ACTS * (MOST_ACTS - 1);

    private static final int ADD = 0;
    private static final int SUBTRACT = 1;
    private static final int LESS = 2;
    private static final int PRODUCT = 3;
    private static final int LOAD = 4;
    private static final int STORE = 5;

    private static final int ROUND_OPERAND = 10;
    private static final int LETTER_OPERAND = 11;
    private static final int MARK = 30;

    private static final int ADDERS = 0;
    private static final int MULTIPLIERS = 1;
    private static final int BANKS = 2;
    private static final int WAYS = 4;
    private static final int DELAY = 6;
    private static final int LONG = 7;
    private static final int REACH = 8;
    private static final int UNITS = 9;
    /** ADDERS, MULTIPLIERS, BANKS of A, BANKS of B: what an ACT may have no ROOM at. */
    private static final int POOLS = 4;

    private static final int LEAST_COST = 6;
    private static final int MOST_COST = 21;

    private static final int UNKNOWN_ADDRESS = 0;
    private static final int FIXED_ADDRESS = 1;
    private static final int ROUND_ADDRESS = 2;

    private final Held held = new Held();
    private final Script script = new Script();
    private final Reader reader = new Reader(script);
    private final Bounds bounds = new Bounds(held);
    private final Planner planner = new Planner(held, bounds);
    private final Player player = new Player(held, planner);
    private final Binder binder = new Binder(held, planner);
    private final Row told = new Row();
    private final History history = new History(held);

    public LoopsToUnits() {
    }

    // ---- texts

    public int sign(int v) {
        if (script.size + 4 > MOST_SIGNS) {
            return NONE;
        }
        for (int shift = 24; shift >= 0; shift -= 8) {
            script.add((v >>> shift) & 255);
        }
        return script.size;
    }

    public boolean end(int n) {
        if (n < 0 || n > script.size) {
            return false;
        }
        script.size = n;
        return true;
    }

    public int loop() {
        int answer = reader.readLoop();
        script.size = 0;
        if (answer < 0) {
            return answer;
        }
        history.mark();
        held.takeLoop(reader.read);
        history.keepMark();
        forgetTimes();
        return answer;
    }

    public int memory(int m) {
        int answer = reader.readCells();
        script.size = 0;
        if (answer < 0) {
            return answer;
        }
        if (!isMemory(m)) {
            return NONE;
        }
        history.mark();
        System.arraycopy(reader.read.cells, 0, held.cells, m * CELLS, CELLS);
        history.keepMark();
        return answer;
    }

    public int cell(int m, int x) throws NoSuchElementException {
        if (!isMemory(m) || !isCell(x)) {
            throw new NoSuchElementException("no such CELL");
        }
        return held.cells[m * CELLS + x];
    }

    public int act(int k, int what) throws NoSuchElementException {
        if (!isAct(k) || what < 0 || what > 3) {
            throw new NoSuchElementException("no such ACT, or nothing such of it");
        }
        switch (what) {
            case 0:
                return held.sorts[k];
            case 1:
                return held.places[k];
            case 2:
                return held.firsts[k];
            default:
                return held.seconds[k];
        }
    }

    public int sheet(int kind, int n, int f, int step) {
        if (kind < 0 || kind > 3 || n > CELLS) {
            return NONE;
        }
        if (kind == 3) {
            writeSheet(kind, 0, f, step);
            return MISSING;
        }
        if (n < 0) {
            return IN_VAIN;
        }
        return writeSheet(kind, n, f, step);
    }

    // ---- changes

    public int sets(int what, int v) {
        history.mark();
        int answer = setUnit(what, v);
        if (answer >= 0) {
            history.keepMark();
        }
        return answer;
    }

    public int writes(int m, int x, int v) {
        history.mark();
        int answer = writeCell(m, x, v);
        if (answer >= 0) {
            history.keepMark();
        }
        return answer;
    }

    public int runs(int n) {
        if (!isRounds(n)) {
            return NONE;
        }
        history.mark();
        player.play(held.cells, n);
        history.keepMark();
        tellValues(n);
        return n;
    }

    public int day() {
        int wrong = reader.checkDay();
        if (wrong < 0) {
            script.size = 0;
            return wrong;
        }
        history.mark();
        int done = doDay();
        boolean whole = script.isOver();
        script.size = 0;
        if (done > 0) {
            history.keepMark();
        }
        told.clear();
        told.add(whole ? 0 : 1);
        return done;
    }

    public int undo() {
        if (history.size == 0) {
            return NONE;
        }
        history.takeBack();
        forgetTimes();
        return history.size;
    }

    // ---- bounds

    public int least() {
        bounds.renew();
        told.clear();
        told.add(bounds.rings);
        for (int pool = 0; pool < POOLS; pool++) {
            told.add(bounds.need(pool));
        }
        return bounds.leastGap();
    }

    public int earliest(int g) {
        if (!isGap(g)) {
            return NONE;
        }
        bounds.renew();
        if (!bounds.haveTimes(g)) {
            return IN_VAIN;
        }
        tellTimes(bounds.earliest, g * MOST_ACTS);
        return bounds.lengthBy(g);
    }

    public int latest(int g) {
        if (!isGap(g)) {
            return NONE;
        }
        bounds.renew();
        if (!bounds.haveTimes(g)) {
            return IN_VAIN;
        }
        tellTimes(bounds.latest, g * MOST_ACTS);
        return bounds.fixedBy(g);
    }

    public int knots() {
        bounds.renew();
        int inRing = bounds.inRings();
        told.clear();
        told.add(Integer.bitCount(inRing));
        return inRing;
    }

    public int address(int k) {
        if (!isAct(k)) {
            return NONE;
        }
        bounds.renew();
        told.clear();
        if (bounds.addresses[k] != UNKNOWN_ADDRESS) {
            told.add(bounds.starts[k]);
        }
        return bounds.addresses[k];
    }

    // ---- the plan

    public int gap() {
        int answer = gapNow();
        tellTicks();
        return answer;
    }

    public int begins(int k) throws NoSuchElementException {
        if (!isAct(k)) {
            throw new NoSuchElementException("no such ACT");
        }
        gapNow();
        return planner.times[k];
    }

    public int why() {
        int all = gapNow();
        int holds = 0;
        for (int pool = 0; pool < POOLS; pool++) {
            if (bounds.need(pool) == all) {
                holds |= 1 << pool;
            }
        }
        if (bounds.rings == all) {
            holds |= 1 << POOLS;
        }
        told.clear();
        told.add(all - bounds.leastGap());
        return holds;
    }

    public int plan(int g) {
        if (!isGap(g)) {
            return NONE;
        }
        bounds.renew();
        planner.forget();
        if (!planner.planBy(g)) {
            return 0;
        }
        tellTicks();
        return 1;
    }

    public int length() {
        int all = gapNow();
        int ticks = planner.ticksOfPlan();
        told.clear();
        told.add(upBy(ticks, all));
        return ticks;
    }

    public int state(int t) {
        int all = gapNow();
        if (t < 0 || t >= all) {
            return NONE;
        }
        int acts = 0;
        for (int k = 0; k < held.acts; k++) {
            if (planner.phaseOf(k) == t) {
                acts |= 1 << k;
            }
        }
        return acts;
    }

    public int tick(int t, int n) {
        if (t < 0 || !isRounds(n)) {
            return NONE;
        }
        gapNow();
        int acts = 0;
        told.clear();
        for (int k = 0; k < held.acts; k++) {
            int round = planner.roundAt(k, t, n);
            told.add(round);
            if (round != NONE) {
                acts |= 1 << k;
            }
        }
        return acts;
    }

    public int registers() {
        int all = gapNow();
        int most = NONE;
        int first = 0;
        for (int t = 0; t < all; t++) {
            int many = planner.keptAt(t);
            if (many > most) {
                most = many;
                first = t;
            }
        }
        told.clear();
        if (most == NONE) {
            return 0;
        }
        told.add(first);
        return most;
    }

    public int binds(int what) {
        if (what != ADDERS && what != MULTIPLIERS) {
            return NONE;
        }
        gapNow();
        int switches = binder.bind(what);
        told.clear();
        for (int i = 0; i < binder.size; i++) {
            told.add(binder.best[i]);
        }
        return switches;
    }

    public int shares(int m) {
        if (!isMemory(m)) {
            return NONE;
        }
        gapNow();
        int pairs = 0;
        told.clear();
        for (int i = 0; i < held.acts; i++) {
            for (int j = i + 1; j < held.acts; j++) {
                if (held.places[i] == m && held.places[j] == m && planner.phaseOf(i) == planner.phaseOf(j)) {
                    if (pairs == 0) {
                        told.add(i);
                        told.add(j);
                    }
                    pairs++;
                }
            }
        }
        return pairs;
    }

    // ---- played

    public int plays(int n) {
        if (!isRounds(n)) {
            return NONE;
        }
        player.copyCells();
        player.play(player.cells, n);
        tellValues(n);
        return player.sumOfCells();
    }

    public int machine(int n) {
        if (!isRounds(n)) {
            return NONE;
        }
        gapNow();
        player.copyCells();
        player.work(player.cells, n);
        tellValues(n);
        told.add(player.sumOfCells());
        return ticksOfMachine(n);
    }

    public int saves(int n) {
        if (!isRounds(n)) {
            return NONE;
        }
        gapNow();
        return 1000 + n * planner.ticksOfPlan() - ticksOfMachine(n);
    }

    // ---- other units

    public int cheapest(int g) {
        if (!isGap(g)) {
            return NONE;
        }
        int adders = held.units[ADDERS];
        int multipliers = held.units[MULTIPLIERS];
        int banksOfA = held.units[BANKS];
        int banksOfB = held.units[BANKS + 1];
        bounds.renew();
        planner.forget();
        int cost = LEAST_COST;
        while (cost <= MOST_COST && !fitsFor(cost, g)) {
            cost++;
        }
        if (cost <= MOST_COST) {
            tellPools();
        }
        putPools(adders, multipliers, banksOfA, banksOfB);
        return cost <= MOST_COST ? cost : IN_VAIN;
    }

    public int would(int what, int v) {
        if (!isUnit(what, v)) {
            return NONE;
        }
        int old = held.units[what];
        if (old == v) {
            return IN_VAIN;
        }
        int now = gapNow();
        putUnit(what, v);
        int then = gapNow();
        putUnit(what, old);
        told.clear();
        told.add(now - then);
        return then;
    }

    public int years(int seed, int n) {
        if (n < 1 || n > MOST_YEARS) {
            return NONE;
        }
        Draw draw = new Draw(seed);
        for (int i = 0; i < n; i++) {
            drawUnit(draw);
        }
        int answer = gapNow();
        told.clear();
        told.add(planner.ticksOfPlan());
        told.add(held.cost());
        return answer;
    }

    // ---- kept

    public boolean keep(int i) {
        return history.keepUnder(i);
    }

    public boolean again(int i) {
        if (!history.takeFrom(i)) {
            return false;
        }
        forgetTimes();
        return true;
    }

    public int count(int what) {
        if (what >= 5 && what < 5 + UNITS) {
            return held.units[what - 5];
        }
        switch (what) {
            case 0:
                return held.acts;
            case 1:
                return held.countSorts(ADD, LESS);
            case 2:
                return held.countSorts(PRODUCT, PRODUCT);
            case 3:
                return held.countSorts(LOAD, LOAD);
            case 4:
                return held.countSorts(STORE, STORE);
            case 14:
                return history.size;
            case 15:
                return told.size;
            case 16:
                return script.size;
            default:
                return NONE;
        }
    }

    public long row(int i) throws NoSuchElementException {
        if (i < 0 || i >= told.size) {
            throw new NoSuchElementException("no such number of the ROW");
        }
        return told.numbers[i];
    }

    // ---- what the calls share

    private static boolean isMemory(int m) {
        return m >= 0 && m < MEMORIES;
    }

    private static boolean isCell(int x) {
        return x >= 0 && x < CELLS;
    }

    private static boolean isRounds(int n) {
        return n >= 0 && n <= MOST_ROUNDS;
    }

    private static boolean isGap(int g) {
        return g >= 1 && g <= MOST_GAP;
    }

    private static boolean isBanks(int v) {
        return v == 1 || v == 2 || v == 4;
    }

    private static boolean isUnit(int what, int v) {
        switch (what) {
            case ADDERS:
            case LONG:
                return v >= 1 && v <= 4;
            case MULTIPLIERS:
            case REACH:
                return v >= 1 && v <= 3;
            case BANKS:
            case BANKS + 1:
                return isBanks(v);
            case WAYS:
            case WAYS + 1:
                return v == 0 || v == 1;
            case DELAY:
                return v >= 1 && v <= PARTS;
            default:
                return false;
        }
    }

    /** a by b, rounded up; 0 where there is nothing to divide by. */
    private static int upBy(int a, int b) {
        return b < 1 ? 0 : (a + b - 1) / b;
    }

    private boolean isAct(int k) {
        return k >= 0 && k < held.acts;
    }

    private void forgetTimes() {
        bounds.forget();
        planner.forget();
    }

    private int writeSheet(int kind, int n, int f, int step) {
        int filled = 0;
        for (int x = 0; x < CELLS; x++) {
            int entry = x < n ? f + x * step : 0;
            if (kind == 0) {
                entry = (byte) entry;
            } else if (kind == 1) {
                entry = (short) entry;
            }
            held.cells[x] = entry;
            if (entry != 0) {
                filled++;
            }
        }
        return filled;
    }

    private int setUnit(int what, int v) {
        if (!isUnit(what, v)) {
            return NONE;
        }
        int old = held.units[what];
        if (old == v) {
            return IN_VAIN;
        }
        putUnit(what, v);
        return old;
    }

    private void putUnit(int what, int v) {
        held.units[what] = v;
        planner.forget();
        if (what >= DELAY) {
            bounds.forget();
        }
    }

    private void putPools(int adders, int multipliers, int banksOfA, int banksOfB) {
        held.units[ADDERS] = adders;
        held.units[MULTIPLIERS] = multipliers;
        held.units[BANKS] = banksOfA;
        held.units[BANKS + 1] = banksOfB;
    }

    private int writeCell(int m, int x, int v) {
        if (!isMemory(m) || !isCell(x)) {
            return NONE;
        }
        if (held.cells[m * CELLS + x] == v) {
            return IN_VAIN;
        }
        held.cells[m * CELLS + x] = v;
        return 1;
    }

    /** Does the CHANGES of a text that was found right; where one can't be, the text is not over. */
    private int doDay() {
        script.at = 0;
        int done = 0;
        for (int i = 0; i < MOST_SIGNS && !script.isOver(); i++) {
            if (doChange(script.at) < 0) {
                return done;
            }
            done++;
            script.at += Reader.signsOfChange(script.now());
        }
        return done;
    }

    private int doChange(int p) {
        switch (script.signAt(p)) {
            case 'u':
                return setUnit(script.digitAt(p + 1), script.digitAt(p + 2));
            case 'w':
                return writeCell(script.signAt(p + 1) - 'A',
                        script.digitAt(p + 2) * 10 + script.digitAt(p + 3), script.digitAt(p + 4));
            default:
                player.play(held.cells, script.digitAt(p + 1));
                return 0;
        }
    }

    private void tellValues(int rounds) {
        told.clear();
        for (int k = 0; k < held.acts; k++) {
            told.add(player.valueOf(k, rounds - 1));
        }
    }

    private void tellPools() {
        told.clear();
        for (int pool = 0; pool < POOLS; pool++) {
            told.add(held.units[pool]);
        }
    }

    private void tellTimes(int[] times, int from) {
        told.clear();
        for (int k = 0; k < held.acts; k++) {
            told.add(times[from + k]);
        }
    }

    private void tellTicks() {
        told.clear();
        for (int k = 0; k < held.acts; k++) {
            told.add(planner.tickOf(k));
        }
    }

    private int ticksOfMachine(int n) {
        return n == 0 ? 0 : (n - 1) * planner.gap + planner.ticksOfPlan();
    }

    /** GAP; BOUNDS and THE PLAN are in place then. */
    private int gapNow() {
        bounds.renew();
        if (planner.stale) {
            planner.gap = Math.max(0, planner.findGap(MOST_GAP));
            planner.stale = false;
        }
        return planner.gap;
    }

    /** Whether UNITS of a COST make GAP g at most; the least row of them is left in place then. */
    private boolean fitsFor(int cost, int g) {
        for (int adders = 1; adders <= 4; adders++) {
            for (int multipliers = 1; multipliers <= 3; multipliers++) {
                for (int banksOfA = 1; banksOfA <= 4; banksOfA *= 2) {
                    int banksOfB = cost - adders - 3 * multipliers - banksOfA;
                    if (isBanks(banksOfB)) {
                        putPools(adders, multipliers, banksOfA, banksOfB);
                        if (planner.findGap(g) != NONE) {
                            return true;
                        }
                    }
                }
            }
        }
        return false;
    }

    private void drawUnit(Draw draw) {
        int what = draw.next(6);
        switch (what) {
            case 0:
                putUnit(ADDERS, draw.next(4) + 1);
                break;
            case 1:
                putUnit(MULTIPLIERS, draw.next(3) + 1);
                break;
            case 2:
            case 3:
                putUnit(what, 1 << draw.next(3));
                break;
            case 4:
                putUnit(DELAY, draw.next(10) + 1);
                break;
            default:
                putUnit(LONG, draw.next(4) + 1);
                break;
        }
    }

    /** All that undo() brings back: THE LOOP, MEMORIES and UNITS. */
    private static final class Held {
        int acts = 0;
        final int[] sorts = new int[MOST_ACTS];
        final int[] places = new int[MOST_ACTS];
        final int[] firsts = new int[MOST_ACTS];
        final int[] seconds = new int[MOST_ACTS];
        final int[] cells = new int[MEMORIES * CELLS];
        final int[] units = {1, 1, 1, 1, 0, 0, 4, 2, 2};

        void take(Held other) {
            takeLoop(other);
            System.arraycopy(other.cells, 0, cells, 0, cells.length);
            System.arraycopy(other.units, 0, units, 0, units.length);
        }

        void takeLoop(Held other) {
            acts = other.acts;
            System.arraycopy(other.sorts, 0, sorts, 0, MOST_ACTS);
            System.arraycopy(other.places, 0, places, 0, MOST_ACTS);
            System.arraycopy(other.firsts, 0, firsts, 0, MOST_ACTS);
            System.arraycopy(other.seconds, 0, seconds, 0, MOST_ACTS);
        }

        void putAct(int k, int sort, int place, int first, int second) {
            sorts[k] = sort;
            places[k] = place;
            firsts[k] = first;
            seconds[k] = second;
        }

        boolean isSum(int k) {
            return sorts[k] <= LESS;
        }

        int countSorts(int low, int high) {
            int many = 0;
            for (int k = 0; k < acts; k++) {
                if (sorts[k] >= low && sorts[k] <= high) {
                    many++;
                }
            }
            return many;
        }

        int cost() {
            return units[ADDERS] + 3 * units[MULTIPLIERS] + units[BANKS] + units[BANKS + 1];
        }

        static int letterOf(int operand) {
            return (operand - LETTER_OPERAND) % MARK;
        }

        static int marksOf(int operand) {
            return (operand - LETTER_OPERAND) / MARK;
        }
    }

    /** THE TEXT, and where it is being read. */
    private static final class Script {
        static final int NO_SIGN = -1;
        final int[] signs = new int[MOST_SIGNS];
        int size = 0;
        int at = 0;

        void add(int sign) {
            if (size < MOST_SIGNS) {
                signs[size] = sign;
                size++;
            }
        }

        int signAt(int p) {
            return p >= 0 && p < size ? signs[p] : NO_SIGN;
        }

        int now() {
            return signAt(at);
        }

        boolean isOver() {
            return at >= size;
        }

        /** Steps over a sign if it is the wanted one. */
        boolean takes(int wanted) {
            if (at >= size || signs[at] != wanted) {
                return false;
            }
            at++;
            return true;
        }

        boolean takesDigit() {
            if (at >= size || signs[at] < '0' || signs[at] > '9') {
                return false;
            }
            at++;
            return true;
        }

        boolean takesMemory() {
            return takes('A') || takes('B');
        }

        int digitAt(int p) {
            int sign = signAt(p);
            return sign >= '0' && sign <= '9' ? sign - '0' : NONE;
        }

        /** What a call answers for the sign that can't stand where the reading stopped. */
        int refusal() {
            return -1 - at;
        }
    }

    /** Reads THE TEXT as a loop, a MEMORY or a DAY; what it reads lies in its own Held till it is known to be right. */
    private static final class Reader {
        final Script script;
        final Held read = new Held();
        private int greatestMarked = NONE;

        Reader(Script script) {
            this.script = script;
        }

        int readLoop() {
            script.at = 0;
            read.acts = 0;
            greatestMarked = NONE;
            if (!script.isOver() && !readsActs()) {
                return script.refusal();
            }
            return greatestMarked >= read.acts ? NO_SUCH_LETTER : read.acts;
        }

        private boolean readsActs() {
            for (int k = 0; k < MOST_ACTS; k++) {
                if (!readsAct(k)) {
                    return false;
                }
                read.acts = k + 1;
                if (script.isOver()) {
                    return true;
                }
                if (k == MOST_ACTS - 1 || !script.takes(';')) {
                    return false;
                }
            }
            return false;
        }

        private boolean readsAct(int k) {
            int memory = script.now() - 'A';
            if (script.takesMemory()) {
                return readsAccess(k, memory);
            }
            int first = readOperand(k);
            if (first == NONE) {
                return false;
            }
            int sort = sortOf(script.now());
            if (sort == NONE) {
                return false;
            }
            script.at++;
            int second = readOperand(k);
            if (second == NONE) {
                return false;
            }
            read.putAct(k, sort, NONE, first, second);
            return true;
        }

        private boolean readsAccess(int k, int memory) {
            if (!script.takes('[')) {
                return false;
            }
            int address = readOperand(k);
            if (address == NONE || !script.takes(']')) {
                return false;
            }
            if (!script.takes('=')) {
                read.putAct(k, LOAD, memory, address, NONE);
                return true;
            }
            int value = readOperand(k);
            if (value == NONE) {
                return false;
            }
            read.putAct(k, STORE, memory, address, value);
            return true;
        }

        private static int sortOf(int sign) {
            switch (sign) {
                case '+':
                    return ADD;
                case '-':
                    return SUBTRACT;
                case '<':
                    return LESS;
                case '*':
                    return PRODUCT;
                default:
                    return NONE;
            }
        }

        /** The number of an OPERAND of ACT k; NONE: the sign where the reading stands can't stand there. */
        private int readOperand(int k) {
            int sign = script.now();
            if (script.takesDigit()) {
                return sign - '0';
            }
            if (script.takes('n')) {
                return ROUND_OPERAND;
            }
            int letter = sign - 'a';
            if (letter < 0 || letter >= MOST_ACTS) {
                return NONE;
            }
            int marks = marksBehind();
            if (marks == 0 && letter >= k) {
                return NONE;
            }
            if (marks > 0 && letter > greatestMarked) {
                greatestMarked = letter;
            }
            script.at += 1 + marks;
            return LETTER_OPERAND + letter + MARK * marks;
        }

        private int marksBehind() {
            if (script.signAt(script.at + 1) != '\'') {
                return 0;
            }
            return script.signAt(script.at + 2) == '\'' ? 2 : 1;
        }

        int readCells() {
            script.at = 0;
            Arrays.fill(read.cells, 0);
            if (script.isOver()) {
                return 0;
            }
            for (int x = 0; x < CELLS; x++) {
                if (!readsNumber(x)) {
                    return script.refusal();
                }
                if (script.isOver()) {
                    return x + 1;
                }
                if (x == CELLS - 1 || !script.takes(',')) {
                    return script.refusal();
                }
            }
            return script.refusal();
        }

        private boolean readsNumber(int x) {
            boolean below = script.takes('-');
            int from = script.at;
            int number = 0;
            for (int i = 0; i < 3; i++) {
                int digit = script.digitAt(script.at);
                if (script.takesDigit()) {
                    number = number * 10 + digit;
                }
            }
            read.cells[x] = below ? -number : number;
            return script.at > from;
        }

        /** 0 if THE TEXT tells a DAY, else what day() answers. */
        int checkDay() {
            script.at = 0;
            for (int i = 0; i < MOST_SIGNS && !script.isOver(); i++) {
                if (!readsChange()) {
                    return script.refusal();
                }
            }
            return 0;
        }

        private boolean readsChange() {
            if (script.takes('u')) {
                return script.takesDigit() && script.takesDigit();
            }
            if (script.takes('w')) {
                return script.takesMemory() && script.takesDigit() && script.takesDigit() && script.takesDigit();
            }
            return script.takes('r') && script.takesDigit();
        }

        static int signsOfChange(int first) {
            if (first == 'u') {
                return 3;
            }
            return first == 'w' ? 5 : 2;
        }
    }

    /** What THE LOOP and UNITS ask of every PLAN: BOUNDS, ADDRESSES, NEEDS, EARLIEST and LATEST by each GAP. */
    private static final class Bounds {
        private static final int NOT_ASKED = 0;
        private static final int THERE = 1;
        private static final int NOT_THERE = 2;

        private final Held held;
        private boolean stale = true;
        int rings = 0;
        /** Of each ACT which of UNITS it needs, PARTS till it is READY, and the last part of a TICK it may begin at. */
        final int[] pools = new int[MOST_ACTS];
        final int[] lasts = new int[MOST_ACTS];
        private final int[] lastParts = new int[MOST_ACTS];
        final int[] addresses = new int[MOST_ACTS];
        final int[] starts = new int[MOST_ACTS];
        int many = 0;
        final int[] by = new int[MOST_BOUNDS];
        final int[] on = new int[MOST_BOUNDS];
        private final int[] parts = new int[MOST_BOUNDS];
        private final int[] rounds = new int[MOST_BOUNDS];
        final int[] earliest = new int[(MOST_GAP + 1) * MOST_ACTS];
        final int[] latest = new int[(MOST_GAP + 1) * MOST_ACTS];
        final int[] order = new int[(MOST_GAP + 1) * MOST_ACTS];
        private final int[] known = new int[MOST_GAP + 1];
        private final int[] reached = new int[MOST_ACTS];

        Bounds(Held held) {
            this.held = held;
        }

        void forget() {
            stale = true;
        }

        /** To be called ahead of all others, if THE LOOP or UNITS may have changed. */
        void renew() {
            if (!stale) {
                return;
            }
            stale = false;
            for (int k = 0; k < held.acts; k++) {
                findSort(k);
                findAddress(k);
            }
            many = 0;
            for (int k = 0; k < held.acts; k++) {
                addOperand(k, held.firsts[k]);
                addOperand(k, held.seconds[k]);
                for (int i = 0; i < k; i++) {
                    addAccess(i, k);
                }
            }
            Arrays.fill(known, NOT_ASKED);
            findRings();
        }

        private void findSort(int k) {
            lastParts[k] = 0;
            if (held.isSum(k)) {
                pools[k] = ADDERS;
                lasts[k] = held.units[DELAY];
                lastParts[k] = PARTS - held.units[DELAY];
            } else if (held.sorts[k] == PRODUCT) {
                pools[k] = MULTIPLIERS;
                lasts[k] = held.units[LONG] * PARTS;
            } else {
                pools[k] = BANKS + held.places[k];
                lasts[k] = held.sorts[k] == LOAD ? held.units[REACH] * PARTS : PARTS;
            }
        }

        private void findAddress(int k) {
            addresses[k] = UNKNOWN_ADDRESS;
            starts[k] = 0;
            if (held.sorts[k] < LOAD) {
                return;
            }
            int operand = held.firsts[k];
            if (operand < ROUND_OPERAND) {
                addresses[k] = FIXED_ADDRESS;
                starts[k] = operand;
            } else if (operand == ROUND_OPERAND) {
                addresses[k] = ROUND_ADDRESS;
            } else if (operand < LETTER_OPERAND + MARK) {
                findAddressBy(k, Held.letterOf(operand));
            }
        }

        /** An ADDRESS is known by an ACT that is n+digit, digit+n or n-digit. */
        private void findAddressBy(int k, int other) {
            int first = held.firsts[other];
            int second = held.seconds[other];
            int sort = held.sorts[other];
            if (first == ROUND_OPERAND && second < ROUND_OPERAND && (sort == ADD || sort == SUBTRACT)) {
                addresses[k] = ROUND_ADDRESS;
                starts[k] = sort == ADD ? second : -second;
            } else if (second == ROUND_OPERAND && first < ROUND_OPERAND && sort == ADD) {
                addresses[k] = ROUND_ADDRESS;
                starts[k] = first;
            }
        }

        private void addOperand(int k, int operand) {
            if (operand >= LETTER_OPERAND) {
                int letter = Held.letterOf(operand);
                add(letter, k, lasts[letter], Held.marksOf(operand));
            }
        }

        private void addAccess(int i, int k) {
            boolean together = held.places[i] != NONE && held.places[i] == held.places[k];
            if (together && (held.sorts[i] == STORE || held.sorts[k] == STORE)) {
                add(i, k, PARTS, 0);
                add(k, i, PARTS, 1);
            }
        }

        private void add(int from, int to, int behind, int roundsLater) {
            if (many < MOST_BOUNDS) {
                by[many] = from;
                on[many] = to;
                parts[many] = behind;
                rounds[many] = roundsLater;
                many++;
            }
        }

        /** How many PARTS behind the begin of the one the other may begin at the earliest. */
        int behind(int bound, int g) {
            return parts[bound] - rounds[bound] * g * PARTS;
        }

        private void findRings() {
            rings = held.acts == 0 ? 0 : 1;
            while (rings > 0 && rings < MOST_GAP && !haveTimes(rings)) {
                rings++;
            }
        }

        /** NEED of a pool: SUMS, PRODUCTS, A, B. */
        int need(int pool) {
            int wanted = 0;
            for (int k = 0; k < held.acts; k++) {
                if (pools[k] == pool) {
                    wanted++;
                }
            }
            return upBy(wanted, held.units[pool]);
        }

        int leastGap() {
            int least = rings;
            for (int pool = 0; pool < POOLS; pool++) {
                least = Math.max(least, need(pool));
            }
            return least;
        }

        /** Whether there are EARLIEST (and so LATEST) by g. */
        boolean haveTimes(int g) {
            if (g < 1 || g > MOST_GAP) {
                return false;
            }
            if (known[g] == NOT_ASKED) {
                known[g] = findsEarliest(g) ? THERE : NOT_THERE;
                if (known[g] == THERE) {
                    findLatest(g);
                    findOrder(g);
                }
            }
            return known[g] == THERE;
        }

        /**
         * TIMES rise from 0 till all BOUNDS hold. A way along BOUNDS that makes a TIME passes each ACT that is no SUM
         * once, but a SUM once between each two of those, as they wait for the begin of a TICK. What still rises behind
         * so many sweeps goes round a ring, and so to 1000 and beyond; without such a ring no TIME comes near 1000.
         */
        private boolean findsEarliest(int g) {
            int from = g * MOST_ACTS;
            for (int k = 0; k < held.acts; k++) {
                earliest[from + k] = 0;
            }
            int sums = held.countSorts(ADD, LESS);
            int sweeps = (sums + 1) * (held.acts - sums + 1);
            for (int sweep = 0; sweep < sweeps; sweep++) {
                if (!raises(from, g)) {
                    return true;
                }
            }
            return false;
        }

        private boolean raises(int from, int g) {
            boolean raised = false;
            for (int b = 0; b < many; b++) {
                int time = firstTime(on[b], earliest[from + by[b]] + behind(b, g));
                if (time > earliest[from + on[b]]) {
                    earliest[from + on[b]] = time;
                    raised = true;
                }
            }
            return raised;
        }

        private void findLatest(int g) {
            int from = g * MOST_ACTS;
            int last = lengthBy(g) * PARTS;
            for (int k = 0; k < held.acts; k++) {
                latest[from + k] = lastTime(k, last - lasts[k]);
            }
            boolean lowered = true;
            for (int sweep = 0; sweep <= MOST_ACTS * MOST_ACTS && lowered; sweep++) {
                lowered = lowers(from, g);
            }
        }

        private boolean lowers(int from, int g) {
            boolean lowered = false;
            for (int b = 0; b < many; b++) {
                int time = lastTime(by[b], latest[from + on[b]] - behind(b, g));
                if (time < latest[from + by[b]]) {
                    latest[from + by[b]] = time;
                    lowered = true;
                }
            }
            return lowered;
        }

        /** The order in which ACTS are put: by LATEST, of equal ones by letters. */
        private void findOrder(int g) {
            int from = g * MOST_ACTS;
            for (int k = 0; k < held.acts; k++) {
                int place = k;
                while (place > 0 && latest[from + order[from + place - 1]] > latest[from + k]) {
                    order[from + place] = order[from + place - 1];
                    place--;
                }
                order[from + place] = k;
            }
        }

        /** The first TIME from a time on at which an ACT may begin. */
        int firstTime(int k, int time) {
            if (time <= 0) {
                return 0;
            }
            int part = time % PARTS;
            return part <= lastParts[k] ? time : time - part + PARTS;
        }

        /** The last TIME up to a time, which is never ahead of EARLIEST, at which an ACT may begin. */
        private int lastTime(int k, int time) {
            int part = time % PARTS;
            return part <= lastParts[k] ? time : time - part + lastParts[k];
        }

        /** LENGTH by g. */
        int lengthBy(int g) {
            int last = 0;
            for (int k = 0; k < held.acts; k++) {
                last = Math.max(last, earliest[g * MOST_ACTS + k] + lasts[k]);
            }
            return upBy(last, PARTS);
        }

        /** How many ACTS have LATEST as EARLIEST. */
        int fixedBy(int g) {
            int fixed = 0;
            for (int k = 0; k < held.acts; k++) {
                if (earliest[g * MOST_ACTS + k] == latest[g * MOST_ACTS + k]) {
                    fixed++;
                }
            }
            return fixed;
        }

        /** ACTS (bits) from which one comes back to them from BOUND to BOUND. */
        int inRings() {
            Arrays.fill(reached, 0);
            for (int b = 0; b < many; b++) {
                reached[by[b]] |= 1 << on[b];
            }
            for (int middle = 0; middle < held.acts; middle++) {
                for (int k = 0; k < held.acts; k++) {
                    if ((reached[k] >> middle & 1) != 0) {
                        reached[k] |= reached[middle];
                    }
                }
            }
            int inRing = 0;
            for (int k = 0; k < held.acts; k++) {
                inRing |= reached[k] & 1 << k;
            }
            return inRing;
        }
    }

    /** Puts ACTS to TIMES; holds THE PLAN, or, once it was told to forget, what was tried last. */
    private static final class Planner {
        private final Held held;
        private final Bounds bounds;
        boolean stale = true;
        int gap = 0;
        final int[] times = new int[MOST_ACTS];
        private final boolean[] put = new boolean[MOST_ACTS];

        Planner(Held held, Bounds bounds) {
            this.held = held;
            this.bounds = bounds;
        }

        void forget() {
            stale = true;
        }

        /** The least GAP up to a greatest one by which there is a PLAN; NONE: there is none. */
        int findGap(int most) {
            if (held.acts == 0) {
                return 0;
            }
            for (int g = bounds.leastGap(); g <= most && g <= MOST_GAP; g++) {
                if (planBy(g)) {
                    return g;
                }
            }
            return NONE;
        }

        boolean planBy(int g) {
            if (!bounds.haveTimes(g)) {
                return false;
            }
            for (int k = 0; k < held.acts; k++) {
                put[k] = false;
            }
            for (int i = 0; i < held.acts; i++) {
                int k = bounds.order[g * MOST_ACTS + i];
                int time = timeFor(k, g);
                if (time == NONE) {
                    return false;
                }
                times[k] = time;
                put[k] = true;
                if (comesTooLate(k, g)) {
                    return false;
                }
            }
            return true;
        }

        private int timeFor(int k, int g) {
            int first = firstFor(k, g);
            if (hasRoom(k, first / PARTS, g)) {
                return first;
            }
            for (int i = 1; i < g; i++) {
                int tick = first / PARTS + i;
                if (hasRoom(k, tick, g)) {
                    return tick * PARTS;
                }
            }
            return NONE;
        }

        private int firstFor(int k, int g) {
            int time = bounds.earliest[g * MOST_ACTS + k];
            for (int b = 0; b < bounds.many; b++) {
                if (bounds.on[b] == k && put[bounds.by[b]]) {
                    time = Math.max(time, times[bounds.by[b]] + bounds.behind(b, g));
                }
            }
            return bounds.firstTime(k, time);
        }

        /** Whether one that was put would now begin too early. */
        private boolean comesTooLate(int k, int g) {
            for (int b = 0; b < bounds.many; b++) {
                int other = bounds.on[b];
                if (bounds.by[b] == k && put[other] && times[other] < times[k] + bounds.behind(b, g)) {
                    return true;
                }
            }
            return false;
        }

        private boolean hasRoom(int k, int tick, int g) {
            if (g < 1) {
                return false;
            }
            int pool = bounds.pools[k];
            int taken = 0;
            for (int i = 0; i < held.acts; i++) {
                int later = tick - times[i] / PARTS;
                if (put[i] && bounds.pools[i] == pool && later % g == 0) {
                    if (pool >= BANKS && mayMeet(k, i, later / g)) {
                        return false;
                    }
                    taken++;
                }
            }
            return pool >= BANKS || taken < held.units[pool];
        }

        /** Whether an ACT and another one at its MEMORY, so many ROUNDS later, are ever at the same BANK. */
        private boolean mayMeet(int k, int other, int roundsLater) {
            if (bounds.addresses[k] == UNKNOWN_ADDRESS || bounds.addresses[other] == UNKNOWN_ADDRESS) {
                return true;
            }
            for (int round = 0; round < CELLS; round++) {
                if (bankIn(k, round) == bankIn(other, round + roundsLater)) {
                    return true;
                }
            }
            return false;
        }

        /** BANK of a known ADDRESS in a ROUND. */
        private int bankIn(int k, int round) {
            int banks = held.units[bounds.pools[k]];
            if (banks < 1 || banks > CELLS) {
                return 0;
            }
            int address = bounds.starts[k] + (bounds.addresses[k] == ROUND_ADDRESS ? round : 0);
            int x = address & CELLS - 1;
            return held.units[WAYS + held.places[k]] == 0 ? x % banks : x / (CELLS / banks);
        }

        int tickOf(int k) {
            return times[k] / PARTS;
        }

        /** TICK of an ACT modulo GAP. */
        int phaseOf(int k) {
            return gap < 1 ? 0 : tickOf(k) % gap;
        }

        /** The ROUND in which an ACT begins in a TICK, of n; NONE: in none. */
        int roundAt(int k, int tick, int n) {
            int later = tick - tickOf(k);
            if (gap < 1 || later < 0 || later % gap != 0) {
                return NONE;
            }
            int round = later / gap;
            return round < n ? round : NONE;
        }

        int readyOf(int k) {
            return times[k] + bounds.lasts[k];
        }

        /** TICKS till the last READY of THE PLAN. */
        int ticksOfPlan() {
            int last = 0;
            for (int k = 0; k < held.acts; k++) {
                last = Math.max(last, readyOf(k));
            }
            return upBy(last, PARTS);
        }

        int lastTick() {
            int last = 0;
            for (int k = 0; k < held.acts; k++) {
                last = Math.max(last, tickOf(k));
            }
            return last;
        }

        /** How many VALUES are kept at the begin of a TICK that is t modulo GAP. */
        int keptAt(int t) {
            if (gap < 1) {
                return 0;
            }
            int kept = 0;
            for (int k = 0; k < held.acts; k++) {
                int first = upBy(readyOf(k), PARTS);
                int last = lastUseOf(k) / PARTS;
                if (last >= first) {
                    kept += Math.floorDiv(last - t, gap) - Math.floorDiv(first - 1 - t, gap);
                }
            }
            return kept;
        }

        /** The last TIME, as of its own ROUND, at which an ACT that has its letter begins (0: none). */
        private int lastUseOf(int k) {
            int last = 0;
            for (int user = 0; user < held.acts; user++) {
                last = Math.max(last, useBy(user, held.firsts[user], k));
                last = Math.max(last, useBy(user, held.seconds[user], k));
            }
            return last;
        }

        private int useBy(int user, int operand, int k) {
            if (operand < LETTER_OPERAND || Held.letterOf(operand) != k) {
                return 0;
            }
            return times[user] + Held.marksOf(operand) * gap * PARTS;
        }
    }

    /** Plays ROUNDS as they are told, and by THE PLAN. */
    private static final class Player {
        private final Held held;
        private final Planner planner;
        final int[] cells = new int[MEMORIES * CELLS];
        private final int[] values = new int[MOST_ROUNDS * MOST_ACTS];
        private final int[] order = new int[MOST_ACTS];
        private final int[] writtenCells = new int[MOST_ACTS];
        private final int[] writtenValues = new int[MOST_ACTS];

        Player(Held held, Planner planner) {
            this.held = held;
            this.planner = planner;
        }

        void copyCells() {
            System.arraycopy(held.cells, 0, cells, 0, cells.length);
        }

        int sumOfCells() {
            int sum = 0;
            for (int value : cells) {
                sum += value;
            }
            return sum;
        }

        /** VALUE of an ACT in a ROUND that was played last; 0, if there is no such ROUND. */
        int valueOf(int k, int round) {
            return round < 0 || round >= MOST_ROUNDS ? 0 : values[round * MOST_ACTS + k];
        }

        void play(int[] memories, int n) {
            for (int round = 0; round < n && round < MOST_ROUNDS; round++) {
                for (int k = 0; k < held.acts; k++) {
                    int value = find(k, round, memories);
                    values[round * MOST_ACTS + k] = value;
                    if (held.sorts[k] == STORE) {
                        memories[cellOf(k, round)] = value;
                    }
                }
            }
        }

        private int find(int k, int round, int[] memories) {
            int first = operand(held.firsts[k], round);
            int second = operand(held.seconds[k], round);
            switch (held.sorts[k]) {
                case ADD:
                    return first + second;
                case SUBTRACT:
                    return first - second;
                case LESS:
                    return first < second ? 1 : 0;
                case PRODUCT:
                    return first * second;
                case LOAD:
                    return memories[cellOf(k, round)];
                default:
                    return second;
            }
        }

        private int operand(int operand, int round) {
            if (operand < ROUND_OPERAND) {
                return operand;
            }
            if (operand == ROUND_OPERAND) {
                return round;
            }
            return valueOf(Held.letterOf(operand), round - Held.marksOf(operand));
        }

        private int cellOf(int k, int round) {
            return held.places[k] * CELLS + Math.floorMod(operand(held.firsts[k], round), CELLS);
        }

        /** Does n ROUNDS by THE PLAN, TICK by TICK. */
        void work(int[] memories, int n) {
            findOrder();
            int last = (n - 1) * planner.gap + planner.lastTick();
            for (int tick = 0; tick <= last; tick++) {
                workTick(memories, tick, n);
            }
        }

        /** Within a TICK an ACT may need the VALUE of one that began in it earlier. */
        private void findOrder() {
            for (int k = 0; k < held.acts; k++) {
                int place = k;
                while (place > 0 && planner.times[order[place - 1]] % PARTS > planner.times[k] % PARTS) {
                    order[place] = order[place - 1];
                    place--;
                }
                order[place] = k;
            }
        }

        private void workTick(int[] memories, int tick, int n) {
            int written = 0;
            for (int i = 0; i < held.acts; i++) {
                int k = order[i];
                int round = planner.roundAt(k, tick, n);
                if (round != NONE) {
                    int value = find(k, round, memories);
                    values[round * MOST_ACTS + k] = value;
                    if (held.sorts[k] == STORE) {
                        writtenCells[written] = cellOf(k, round);
                        writtenValues[written] = value;
                        written++;
                    }
                }
            }
            for (int i = 0; i < written; i++) {
                memories[writtenCells[i]] = writtenValues[i];
            }
        }
    }

    /** Binds SUMS or PRODUCTS to units by the fewest SWITCHES. */
    private static final class Binder {
        private static final int MOST_UNITS = 4;
        private static final int NOT_BOUND = 2 * MOST_ACTS + 1;

        private final Held held;
        private final Planner planner;
        int size = 0;
        final int[] best = new int[MOST_ACTS];
        private int units = 0;
        private int fewest = 0;
        private final int[] tried = new int[MOST_ACTS];
        private final long[] phases = new long[MOST_ACTS];
        private final long[] firsts = new long[MOST_ACTS];
        private final long[] seconds = new long[MOST_ACTS];
        private final long[] phasesOfUnit = new long[MOST_UNITS];
        private final long[] firstsOfUnit = new long[MOST_UNITS];
        private final long[] secondsOfUnit = new long[MOST_UNITS];

        Binder(Held held, Planner planner) {
            this.held = held;
            this.planner = planner;
        }

        /** The fewest SWITCHES of ADDERS or MULTIPLIERS; how they are bound lies in best then. */
        int bind(int what) {
            size = 0;
            for (int k = 0; k < held.acts; k++) {
                if (what == ADDERS ? held.isSum(k) : held.sorts[k] == PRODUCT) {
                    phases[size] = 1L << planner.phaseOf(k);
                    firsts[size] = 1L << closeUp(held.firsts[k]);
                    seconds[size] = 1L << closeUp(held.seconds[k]);
                    size++;
                }
            }
            units = Math.min(held.units[what], MOST_UNITS);
            fewest = NOT_BOUND;
            Arrays.fill(phasesOfUnit, 0L);
            Arrays.fill(firstsOfUnit, 0L);
            Arrays.fill(secondsOfUnit, 0L);
            bindFrom(0, 0, 0);
            return fewest;
        }

        /** OPERANDS as numbers 0 .. 40, to be bits of a long. */
        private static int closeUp(int operand) {
            if (operand < LETTER_OPERAND) {
                return operand;
            }
            return LETTER_OPERAND + Held.letterOf(operand) + MOST_ACTS * Held.marksOf(operand);
        }

        /**
         * Tries units from ACT i on. Units are tried from 0 on, and only a better row is taken, so that the least row
         * stays; all units that are still empty are alike, so that the first of them stands for all.
         */
        private void bindFrom(int i, int switches, int used) {
            if (switches >= fewest) {
                return;
            }
            if (i >= size) {
                fewest = switches;
                System.arraycopy(tried, 0, best, 0, size);
                return;
            }
            for (int unit = 0; unit <= used && unit < units; unit++) {
                if ((phasesOfUnit[unit] & phases[i]) == 0) {
                    bindTo(unit, i, switches, used);
                }
            }
        }

        private void bindTo(int unit, int i, int switches, int used) {
            long phasesThere = phasesOfUnit[unit];
            long firstsThere = firstsOfUnit[unit];
            long secondsThere = secondsOfUnit[unit];
            phasesOfUnit[unit] |= phases[i];
            firstsOfUnit[unit] |= firsts[i];
            secondsOfUnit[unit] |= seconds[i];
            tried[i] = unit;
            int more = switchesFor(firstsThere, firsts[i]) + switchesFor(secondsThere, seconds[i]);
            bindFrom(i + 1, switches + more, Math.max(used, unit + 1));
            phasesOfUnit[unit] = phasesThere;
            firstsOfUnit[unit] = firstsThere;
            secondsOfUnit[unit] = secondsThere;
        }

        private static int switchesFor(long there, long operand) {
            return there == 0 || (there & operand) != 0 ? 0 : 1;
        }
    }

    /** The ROW. */
    private static final class Row {
        final long[] numbers = new long[MOST_ACTS + 1];
        int size = 0;

        void clear() {
            size = 0;
        }

        void add(long number) {
            if (size < numbers.length) {
                numbers[size] = number;
                size++;
            }
        }
    }

    /** What undo() and again() bring back. */
    private static final class History {
        private final Held held;
        /** A ring with one place more than are kept: what a call that may yet be refused marks loses none of them. */
        private final Held[] marks = new Held[MOST_UNDONE + 1];
        private int next = 0;
        int size = 0;
        private final Held[] slots = new Held[SLOTS];
        private final boolean[] filled = new boolean[SLOTS];

        History(Held held) {
            this.held = held;
            for (int i = 0; i < marks.length; i++) {
                marks[i] = new Held();
            }
            for (int i = 0; i < slots.length; i++) {
                slots[i] = new Held();
            }
        }

        /** Notes how all is; it is kept only by keepMark(). */
        void mark() {
            marks[next].take(held);
        }

        void keepMark() {
            next = (next + 1) % marks.length;
            size = Math.min(size + 1, MOST_UNDONE);
        }

        void takeBack() {
            if (size > 0) {
                next = (next + marks.length - 1) % marks.length;
                held.take(marks[next]);
                size--;
            }
        }

        boolean keepUnder(int i) {
            if (i < 0 || i >= SLOTS) {
                return false;
            }
            slots[i].take(held);
            filled[i] = true;
            return true;
        }

        boolean takeFrom(int i) {
            if (i < 0 || i >= SLOTS || !filled[i]) {
                return false;
            }
            held.take(slots[i]);
            size = 0;
            return true;
        }
    }

    /** Numbers that a seed gives. */
    private static final class Draw {
        private int last;

        Draw(int seed) {
            last = seed;
        }

        int next(int n) {
            last = last * 1103515245 + 12345;
            return n < 1 ? 0 : (last >>> 16) % n;
        }
    }
}
