import java.util.ArrayList;
import java.util.List;
import java.util.NoSuchElementException;

/** The promises one by one: ordinary inputs, the edges that the document names, wrong inputs. */
public final class PromisesTest {
    private static int passed = 0;
    private static int failed = 0;
    private static int promise = 0;

    private static void is(String what, long got, long want) {
        same(what, Long.toString(got), Long.toString(want));
    }

    private static void is(String what, boolean got, boolean want) {
        same(what, Boolean.toString(got), Boolean.toString(want));
    }

    private static void same(String what, String got, String want) {
        if (got.equals(want)) {
            passed++;
        } else {
            failed++;
            System.out.println("promise " + promise + ": " + what + " answered " + got + ", due is " + want);
        }
    }

    private interface Call {
        long go();
    }

    private static void throwsNone(String what, Call call) {
        String got;
        try {
            got = Long.toString(call.go());
        } catch (NoSuchElementException e) {
            got = "NoSuchElementException";
        }
        same(what, got, "NoSuchElementException");
    }

    private static LoopsToUnits loop(String t) {
        LoopsToUnits x = new LoopsToUnits();
        Texts.tell(x, t);
        x.loop();
        return x;
    }

    private static int loopAnswer(LoopsToUnits x, String t) {
        Texts.tell(x, t);
        return x.loop();
    }

    private static int memoryAnswer(LoopsToUnits x, int m, String t) {
        Texts.tell(x, t);
        return x.memory(m);
    }

    private static int dayAnswer(LoopsToUnits x, String t) {
        Texts.tell(x, t);
        return x.day();
    }

    private static String row(LoopsToUnits x) {
        List<Long> numbers = new ArrayList<>();
        for (int i = 0; i < x.count(15); i++) {
            numbers.add(x.row(i));
        }
        return numbers.toString();
    }

    private static void rowIs(LoopsToUnits x, String want) {
        same("the ROW", row(x), want);
    }

    private static String cells(LoopsToUnits x, int m) {
        StringBuilder all = new StringBuilder();
        for (int i = 0; i < 16; i++) {
            all.append(i == 0 ? "" : " ").append(x.cell(m, i));
        }
        return all.toString();
    }

    private static final String ZEROS = "0 0 0 0 0 0 0 0 0 0 0 0 0 0 0 0";
    /** One ring through MEMORY A, of 6 TICKS. */
    private static final String RING = "A[n];a*3;b+1;A[n]=c";
    /** The same by two MEMORIES: no ring. */
    private static final String STREAM = "A[n];a*3;b+1;B[n]=c";
    private static final String TEN = "1+1;1+1;1+1;1+1;1+1;1+1;1+1;1+1;1+1;1+1";

    private static void newObject() {
        LoopsToUnits x = new LoopsToUnits();
        for (int what = 0; what < 5; what++) {
            is("count(" + what + ")", x.count(what), 0);
        }
        int[] units = {1, 1, 1, 1, 0, 0, 4, 2, 2};
        for (int i = 0; i < 9; i++) {
            is("count(" + (5 + i) + ")", x.count(5 + i), units[i]);
        }
        for (int what = 14; what < 17; what++) {
            is("count(" + what + ")", x.count(what), 0);
        }
        same("A", cells(x, 0), ZEROS);
        same("B", cells(x, 1), ZEROS);
        is("gap()", x.gap(), 0);
        is("NONE", LoopsToUnits.NONE, -1);
    }

    private static void sign() {
        LoopsToUnits x = new LoopsToUnits();
        is("the highest byte is first", x.sign(0x61272b31), 4);
        is("loop()", x.loop(), 1);
        x.sign(-1);
        is("signs above 127", x.loop(), -1);
        for (int i = 1; i <= 20; i++) {
            is("sign", x.sign(0x312b313b), 4 * i);
        }
        is("more than 80", x.sign(0), -1);
        is("count(16)", x.count(16), 80);
        x.end(77);
        is("81", x.sign(0), -1);
        is("count(16)", x.count(16), 77);
        x.end(76);
        is("80", x.sign(0), 80);
    }

    private static void end() {
        LoopsToUnits x = new LoopsToUnits();
        is("end(0) of none", x.end(0), true);
        is("end(1) of none", x.end(1), false);
        x.sign(0x312b3131);
        is("end(-1)", x.end(-1), false);
        is("end(5)", x.end(5), false);
        is("count(16)", x.count(16), 4);
        is("end(4)", x.end(4), true);
        is("end(3)", x.end(3), true);
        is("count(16)", x.count(16), 3);
        is("loop()", x.loop(), 1);
        is("a call that reads it empties it", x.count(16), 0);
    }

    private static void loopTexts() {
        LoopsToUnits x = loop("n+1;a*2");
        String[] wrong = {"1", "a+1", "1+a", "1+1;b+1", "a'''+1", "1+1;a+", "A[n", "A[n]=", "A[n]=1+1", "C[n]", "k'+1", "1+1;",
            "1/1", ";", "1+1;;", "b'+", "A(n]", "A[n)", "A[", "A", "A[n]1", "a", "1+1,1+1", " 1+1", "1+1 ", "1+1\u00e9",
            TEN + ";1+1", TEN + ";", TEN + "x", "12+1", "1+12", "A[b]", "A[1]=a", "N+1", "'+1"};
        int[] at = {1, 0, 2, 4, 3, 6, 3, 5, 6, 0, 0, 4,
            1, 0, 4, 3, 1, 3, 2, 1, 4, 0, 3, 0, 3, 3,
            39, 39, 39, 1, 3, 2, 5, 0, 0};
        for (int i = 0; i < wrong.length; i++) {
            is(wrong[i], loopAnswer(x, wrong[i]), -1 - at[i]);
            is("signs left", x.count(16), 0);
        }
        is("b'+1", loopAnswer(x, "b'+1"), -200);
        is("1+1;c''*2", loopAnswer(x, "1+1;c''*2"), -200);
        is("count(0): nothing changed", x.count(0), 2);
        is("count(14)", x.count(14), 1);
        String[] right = {"a'+1", "b'+1;a''<b'", "A[n]", "B[a']=a''", TEN, "1+1;a+a;A[b]=a;c*d'", "j'+1;" + TEN.substring(4)};
        int[] acts = {1, 2, 1, 1, 10, 4, 10};
        for (int i = 0; i < right.length; i++) {
            is(right[i], loopAnswer(x, right[i]), acts[i]);
        }
        is("an empty one", x.loop(), 0);
        is("count(0)", x.count(0), 0);
        is("such can be undone", x.count(14), 9 < 2 + right.length ? 9 : 2 + right.length);
    }

    private static void memoryTexts() {
        LoopsToUnits x = new LoopsToUnits();
        is("memory(0)", memoryAnswer(x, 0, "1,-2,300"), 3);
        same("A", cells(x, 0), "1 -2 300 0 0 0 0 0 0 0 0 0 0 0 0 0");
        String[] wrong = {"1234", "-", "1,", ",", "--1", "1,,2", "1;2", "1,2,3,4,5,6,7,8,9,10,11,12,13,14,15,16,17", "a", "1-2", " 1"};
        int[] at = {3, 1, 2, 0, 1, 2, 1, 38, 0, 1, 0};
        for (int i = 0; i < wrong.length; i++) {
            is(wrong[i], memoryAnswer(x, 0, wrong[i]), -1 - at[i]);
            is(wrong[i] + " of no MEMORY", memoryAnswer(x, 2, wrong[i]), -1 - at[i]);
            is("signs left", x.count(16), 0);
        }
        same("A", cells(x, 0), "1 -2 300 0 0 0 0 0 0 0 0 0 0 0 0 0");
        is("memory(2)", memoryAnswer(x, 2, "1"), -1);
        is("memory(-1)", memoryAnswer(x, -1, ""), -1);
        is("count(14)", x.count(14), 1);
        is("16", memoryAnswer(x, 1, "1,2,3,4,5,6,7,8,9,10,11,12,13,14,15,-016"), 16);
        is("the 16th", x.cell(1, 15), -16);
        is("-0", memoryAnswer(x, 0, "-0,007"), 2);
        same("those behind are 0", cells(x, 0), "0 7 0 0 0 0 0 0 0 0 0 0 0 0 0 0");
        is("an empty one", x.memory(1), 0);
        same("B", cells(x, 1), ZEROS);
        is("count(14)", x.count(14), 4);
    }

    private static void cell() {
        LoopsToUnits x = new LoopsToUnits();
        x.writes(1, 15, 9);
        is("cell(1, 15)", x.cell(1, 15), 9);
        is("cell(0, 15)", x.cell(0, 15), 0);
        int[][] none = {{-1, 0}, {2, 0}, {0, -1}, {0, 16}, {1, 16}, {Integer.MAX_VALUE, Integer.MIN_VALUE}};
        for (int[] a : none) {
            throwsNone("cell(" + a[0] + ", " + a[1] + ")", () -> x.cell(a[0], a[1]));
        }
    }

    private static void act() {
        LoopsToUnits x = loop("n+7;a-b';a<j'';a*c';A[n];B[e]=9;1+1;1+1;1+1;1+1");
        int[][] due = {{0, -1, 10, 7}, {1, -1, 11, 42}, {2, -1, 11, 80}, {3, -1, 11, 43}, {4, 0, 10, -1}, {5, 1, 15, 9}};
        for (int k = 0; k < due.length; k++) {
            for (int what = 0; what < 4; what++) {
                is("act(" + k + ", " + what + ")", x.act(k, what), due[k][what]);
            }
        }
        throwsNone("act(10, 0)", () -> x.act(10, 0));
        throwsNone("act(-1, 0)", () -> x.act(-1, 0));
        throwsNone("act(0, 4)", () -> x.act(0, 4));
        throwsNone("act(0, -1)", () -> x.act(0, -1));
        throwsNone("act(0, 0) of none", () -> new LoopsToUnits().act(0, 0));
    }

    private static void sheet() {
        LoopsToUnits x = new LoopsToUnits();
        x.writes(1, 0, 5);
        is("bytes", x.sheet(0, 4, 126, 1), 4);
        same("A", cells(x, 0), "126 127 -128 -127 0 0 0 0 0 0 0 0 0 0 0 0");
        is("a byte of 256 is 0", x.sheet(0, 2, 256, 1), 1);
        is("shorts", x.sheet(1, 3, 32767, 32769), 2);
        same("A", cells(x, 0), "32767 0 -32767 0 0 0 0 0 0 0 0 0 0 0 0 0");
        is("ints", x.sheet(2, 2, Integer.MAX_VALUE, 1), 2);
        is("as ints", x.cell(0, 1), Integer.MIN_VALUE);
        is("16", x.sheet(2, 16, 1, 0), 16);
        is("17", x.sheet(2, 17, 1, 0), -1);
        is("another kind", x.sheet(4, -1, 1, 0), -1);
        is("another kind", x.sheet(-1, 1, 1, 0), -1);
        is("n below 0", x.sheet(1, -1, 1, 0), -2);
        is("missing of 17", x.sheet(3, 17, 1, 0), -1);
        is("nothing changed", x.cell(0, 15), 1);
        is("missing", x.sheet(3, -1, 1, 0), -3);
        same("A", cells(x, 0), ZEROS);
        is("n 0", x.sheet(2, 0, 1, 0), 0);
        is("nothing is kept of it", x.count(14), 1);
        x.writes(0, 3, 4);
        x.sheet(2, 16, 7, 0);
        x.undo();
        same("an undo() brings CELLS back", cells(x, 0), ZEROS);
        is("B stays", x.cell(1, 0), 5);
    }

    private static void sets() {
        LoopsToUnits x = new LoopsToUnits();
        int[] was = {1, 1, 1, 1, 0, 0, 4, 2, 2};
        int[] greatest = {4, 3, 4, 4, 1, 1, 10, 4, 3};
        for (int what = 0; what < 9; what++) {
            is("sets(" + what + ") as it is", x.sets(what, was[what]), -2);
            is("sets(" + what + ") too great", x.sets(what, greatest[what] + 1), -1);
            is("sets(" + what + ") too small", x.sets(what, what == 4 || what == 5 ? -1 : 0), -1);
            is("sets(" + what + ")", x.sets(what, greatest[what]), was[what]);
            is("it is", x.count(5 + what), greatest[what]);
        }
        is("3 BANKS", x.sets(2, 3), -1);
        is("3 BANKS", x.sets(3, 3), -1);
        int[] least = {1, 1, 1, 1, 0, 0, 1, 1, 1};
        for (int what = 0; what < 9; what++) {
            is("sets(" + what + ") the least", x.sets(what, least[what]), greatest[what]);
            x.undo();
        }
        is("2 BANKS", x.sets(3, 2), 4);
        is("9 are kept", x.count(14), 9);
        is("sets(9, 1)", x.sets(9, 1), -1);
        is("sets(-1, 1)", x.sets(-1, 1), -1);
        is("count(14)", x.count(14), 9);
    }

    private static void writes() {
        LoopsToUnits x = new LoopsToUnits();
        is("writes", x.writes(0, 0, Integer.MIN_VALUE), 1);
        is("it is so", x.writes(0, 0, Integer.MIN_VALUE), -2);
        is("0", x.writes(1, 15, 0), -2);
        is("cell", x.cell(0, 0), Integer.MIN_VALUE);
        is("no such MEMORY", x.writes(2, 0, 1), -1);
        is("no such MEMORY", x.writes(-1, 0, 1), -1);
        is("no such CELL", x.writes(0, 16, 1), -1);
        is("no such CELL", x.writes(0, -1, 1), -1);
        is("count(14)", x.count(14), 1);
    }

    private static void runs() {
        LoopsToUnits x = loop("A[0];a+n;A[0]=b;c<3;b*d'");
        is("runs(3)", x.runs(3), 3);
        rowIs(x, "[1, 3, 3, 0, 3]");
        is("MEMORIES stay", x.cell(0, 0), 3);
        is("runs(0)", x.runs(0), 0);
        rowIs(x, "[0, 0, 0, 0, 0]");
        is("runs(0) can be undone", x.count(14), 3);
        is("runs(41)", x.runs(41), -1);
        is("runs(-1)", x.runs(-1), -1);
        is("runs(40)", x.runs(40), 40);
        is("ROUNDS are from 0 again", x.cell(0, 0), 3 + 780);
        LoopsToUnits y = loop("0-3;A[a]=7;a''+b'");
        y.runs(3);
        is("CELL modulo 16", y.cell(0, 13), 7);
        rowIs(y, "[-3, 7, 4]");
        y.runs(2);
        rowIs(y, "[-3, 7, 7]");
        LoopsToUnits z = new LoopsToUnits();
        z.knots();
        is("runs(5) without ACTS", z.runs(5), 5);
        rowIs(z, "[]");
    }

    private static void day() {
        LoopsToUnits x = loop("A[1]=n");
        is("day()", dayAnswer(x, "u02wB159r3u71"), 4);
        rowIs(x, "[0]");
        is("ADDERS", x.count(5), 2);
        is("LONG", x.count(12), 1);
        is("B", x.cell(1, 15), 9);
        is("A", x.cell(0, 1), 2);
        is("as one", x.count(14), 2);
        is("till one can't be", dayAnswer(x, "wA001wA162wA003"), 1);
        rowIs(x, "[1]");
        is("A", x.cell(0, 0), 1);
        is("count(14)", x.count(14), 3);
        is("it is so", dayAnswer(x, "u02r1"), 0);
        rowIs(x, "[1]");
        is("none was done", x.count(14), 3);
        x.gap();
        rowIs(x, "[0]");
        String[] wrong = {"u", "u0", "u0x", "ux1", "w", "wC001", "wA", "wA0", "wA00", "wA0x1", "r", "rx", "u03 ", "x", "u03r", "u03,r1", "wA0011"};
        int[] at = {1, 2, 2, 1, 1, 1, 2, 3, 4, 3, 1, 1, 3, 0, 4, 3, 5};
        for (int i = 0; i < wrong.length; i++) {
            is(wrong[i], dayAnswer(x, wrong[i]), -1 - at[i]);
            is("signs left", x.count(16), 0);
        }
        is("nothing is done", x.count(5), 2);
        rowIs(x, "[0]");
        is("an empty one", x.day(), 0);
        rowIs(x, "[0]");
        is("of it nothing is kept", x.count(14), 3);
        is("r0", dayAnswer(x, "r0"), 1);
        is("r0 was done", x.count(14), 4);
        is("what 9", dayAnswer(x, "u91"), 0);
        is("undo()", x.undo(), 3);
        is("undo()", x.undo(), 2);
        is("undo()", x.undo(), 1);
        is("ADDERS", x.count(5), 1);
        same("A", cells(x, 0), ZEROS);
        same("B", cells(x, 1), ZEROS);
    }

    private static void undo() {
        LoopsToUnits x = new LoopsToUnits();
        is("none", x.undo(), -1);
        for (int v = 1; v <= 12; v++) {
            x.writes(0, 0, v);
        }
        is("9 are kept", x.count(14), 9);
        for (int left = 8; left >= 0; left--) {
            is("undo()", x.undo(), left);
            is("cell(0, 0)", x.cell(0, 0), left + 3);
        }
        is("none", x.undo(), -1);
        is("cell(0, 0)", x.cell(0, 0), 3);
        Texts.tell(x, RING);
        x.loop();
        x.sets(6, 10);
        memoryAnswer(x, 1, "5");
        x.runs(2);
        x.knots();
        Texts.tell(x, "r1");
        is("undo()", x.undo(), 3);
        rowIs(x, "[4]");
        is("THE TEXT stays", x.count(16), 2);
        is("undo()", x.undo(), 2);
        is("B", x.cell(1, 0), 0);
        is("DELAY", x.count(11), 10);
        is("undo()", x.undo(), 1);
        is("DELAY", x.count(11), 4);
        is("length()", x.length(), 6);
        is("undo()", x.undo(), 0);
        is("no ACTS", x.gap(), 0);
        x.writes(0, 5, 5);
        x.writes(0, 5, 5);
        is("refused calls are not kept", x.count(14), 1);
    }

    private static void least() {
        LoopsToUnits x = loop("n+1;n-1;n<1;a*a;b*b;A[n];A[1];B[0];A[2]");
        is("least()", x.least(), 3);
        rowIs(x, "[1, 3, 2, 3, 1]");
        x.sets(0, 2);
        x.sets(2, 2);
        is("least()", x.least(), 2);
        rowIs(x, "[1, 2, 2, 2, 1]");
        LoopsToUnits ring = loop("a''*a'");
        ring.sets(7, 4);
        is("LONG by '", ring.least(), 4);
        LoopsToUnits half = loop("a''*1");
        half.sets(7, 3);
        is("3 TICKS by ''", half.least(), 2);
        LoopsToUnits chain = loop("e'*1;a*1;b*1;c*1;d*1");
        chain.sets(7, 4);
        chain.sets(1, 3);
        is("20 TICKS", chain.least(), 20);
        rowIs(chain, "[20, 0, 2, 0, 0]");
        is("without ACTS", new LoopsToUnits().least(), 0);
    }

    private static void earliest() {
        LoopsToUnits x = loop("n+1;a+1;b+1;c*2;d-1;e-f'");
        is("earliest(1)", x.earliest(1), 5);
        rowIs(x, "[0, 4, 10, 20, 40, 44]");
        is("count", x.count(15), 6);
        is("0", x.earliest(0), -1);
        is("61", x.earliest(61), -1);
        is("-1", x.earliest(-1), -1);
        rowIs(x, "[0, 4, 10, 20, 40, 44]");
        x.sets(6, 10);
        is("60", x.earliest(60), 7);
        rowIs(x, "[0, 10, 20, 30, 50, 60]");
        LoopsToUnits ring = loop(RING);
        ring.knots();
        is("none", ring.earliest(5), -2);
        rowIs(ring, "[4]");
        LoopsToUnits late = loop("b'+1;1*1");
        is("less G", late.earliest(1), 2);
        rowIs(late, "[10, 0]");
        LoopsToUnits order = loop("A[0]=1;A[1];B[0];B[1];A[2]=2");
        is("the later one a TICK behind", order.earliest(3), 3);
        rowIs(order, "[0, 10, 0, 0, 20]");
        is("and the earlier one by G", order.earliest(2), -2);
        is("without ACTS", new LoopsToUnits().earliest(60), 0);
    }

    private static void latest() {
        LoopsToUnits x = loop("n+1;a*2;n+3;c<b;A[c];1-d'");
        is("latest(1)", x.latest(1), 1);
        rowIs(x, "[6, 10, 16, 36, 20, 36]");
        is("latest(0)", x.latest(0), -1);
        is("latest(61)", x.latest(61), -1);
        rowIs(x, "[6, 10, 16, 36, 20, 36]");
        is("none", loop(RING).latest(5), -2);
        LoopsToUnits ring = loop(RING);
        is("latest(6)", ring.latest(6), 3);
        rowIs(ring, "[0, 20, 46, 50]");
        LoopsToUnits tens = loop("n+1;a*2");
        tens.sets(6, 10);
        is("DELAY 10", tens.latest(1), 2);
        rowIs(tens, "[0, 10]");
        is("without ACTS", new LoopsToUnits().latest(1), 0);
    }

    private static void knots() {
        LoopsToUnits x = loop("a''+1;n+1;d'*b;c+1;B[d];B[1];A[0];A[1]=3");
        is("knots()", x.knots(), 1 + 4 + 8 + 64 + 128);
        rowIs(x, "[5]");
        LoopsToUnits none = loop("n+1;a+1;A[b];A[1];B[0]=1");
        is("none", none.knots(), 0);
        rowIs(none, "[0]");
        is("without ACTS", new LoopsToUnits().knots(), 0);
    }

    private static void address() {
        LoopsToUnits x = loop("n+3;4+n;n-5;6-n;A[a];A[b];A[c];A[d];B[9]=1;B[n]=a");
        int[] kinds = {0, 0, 0, 0, 2, 2, 2, 0, 1, 2};
        String[] rows = {"[]", "[]", "[]", "[]", "[3]", "[4]", "[-5]", "[]", "[9]", "[0]"};
        for (int k = 0; k < 10; k++) {
            is("address(" + k + ")", x.address(k), kinds[k]);
            rowIs(x, rows[k]);
        }
        is("address(10)", x.address(10), -1);
        is("address(-1)", x.address(-1), -1);
        rowIs(x, "[0]");
        LoopsToUnits y = loop("n+n;n*1;1+1;n<2;n+1;A[a];A[b];A[c];A[d];A[e']");
        for (int k = 5; k < 10; k++) {
            is("not known", y.address(k), 0);
        }
    }

    private static void gap() {
        LoopsToUnits x = loop(STREAM);
        is("gap()", x.gap(), 1);
        rowIs(x, "[0, 2, 4, 5]");
        LoopsToUnits ring = loop(RING);
        is("RINGS hold it", ring.gap(), 6);
        rowIs(ring, "[0, 2, 4, 5]");
        // Two LOADS whose CELLS are one behind the other: by 2 BANKS they are at different ones within one TICK.
        LoopsToUnits banks = loop("n+1;A[n];A[a]");
        banks.sets(2, 2);
        banks.sets(6, 10);
        is("c comes a TICK later, to the CELL of b in the ROUND behind", banks.gap(), 2);
        rowIs(banks, "[0, 0, 1]");
        LoopsToUnits even = loop("A[0];A[1];A[2]");
        even.sets(2, 2);
        is("0 and 1 by 2 BANKS", even.gap(), 2);
        rowIs(even, "[0, 0, 1]");
        even.sets(4, 1);
        is("0 .. 7 are one BANK by WAY 1", even.gap(), 3);
        even.sets(2, 4);
        is("0 .. 3 are one BANK of 4 by WAY 1", even.gap(), 3);
        even.sets(4, 0);
        is("by WAY 0 they are not", even.gap(), 1);
        LoopsToUnits halves = loop("A[7];A[8]");
        halves.sets(2, 2);
        halves.sets(4, 1);
        is("7 and 8 are two BANKS by WAY 1", halves.gap(), 1);
        LoopsToUnits behind = loop("n-1;A[n];A[a]");
        behind.sets(2, 2);
        is("c is two CELLS behind b of that TICK, a ROUND later: one BANK of 2", behind.gap(), 2);
        behind.sets(2, 4);
        is("and two BANKS of 4", behind.gap(), 1);
        LoopsToUnits unknown = loop("n*1;A[a];A[1]");
        unknown.sets(2, 4);
        is("not known", unknown.gap(), 2);
        LoopsToUnits any = loop("A[n];A[1]");
        any.sets(2, 4);
        is("n comes to all BANKS", any.gap(), 2);
        is("without ACTS", new LoopsToUnits().gap(), 0);
    }

    private static void begins() {
        LoopsToUnits x = loop("n+1;n+2;a+b;n*n;d+c");
        x.sets(0, 3);
        is("GAP", x.gap(), 2);
        int[] due = {0, 0, 4, 0};
        for (int k = 0; k < 4; k++) {
            is("begins(" + k + ")", x.begins(k), due[k]);
        }
        is("e waits a TICK: a, b, c are in TICK 0", x.begins(4), 30);
        throwsNone("begins(5)", () -> x.begins(5));
        throwsNone("begins(-1)", () -> x.begins(-1));
        throwsNone("begins(0) of none", () -> new LoopsToUnits().begins(0));
    }

    private static void why() {
        LoopsToUnits x = loop("n+1;n+2;a*a");
        is("SUMS", x.why(), 1);
        rowIs(x, "[0]");
        is("PRODUCTS", loop("n*1;n*2").why(), 2);
        is("A", loop("A[0];A[1]").why(), 4);
        is("B", loop("B[0];B[1]").why(), 8);
        is("RINGS", loop("a'*2").why(), 16);
        is("RINGS and PRODUCTS", loop("a'*2;n*1").why(), 18);
        LoopsToUnits banks = loop("A[n];n+1;A[b]");
        banks.sets(2, 2);
        is("none of them", banks.why(), 0);
        rowIs(banks, "[1]");
        is("without ACTS", new LoopsToUnits().why(), 31);
    }

    private static void plan() {
        LoopsToUnits x = loop("A[n];n+1;A[b]");
        x.sets(2, 2);
        x.knots();
        is("plan(1)", x.plan(1), 0);
        rowIs(x, "[0]");
        is("plan(2)", x.plan(2), 1);
        rowIs(x, "[0, 0, 1]");
        is("plan(60)", x.plan(60), 1);
        rowIs(x, "[0, 0, 1]");
        is("plan(0)", x.plan(0), -1);
        is("plan(61)", x.plan(61), -1);
        is("THE PLAN stays", x.gap(), 2);
        is("no EARLIEST", loop(RING).plan(5), 0);
        is("too few units", loop("n+1;n+2").plan(1), 0);
        LoopsToUnits early = loop("n*b';n*n");
        is("b has ROOM in TICK 1, and a, in TICK 0, is too early then", early.plan(2), 0);
        is("plan(3)", early.plan(3), 1);
        rowIs(early, "[0, 1]");
        is("GAP", early.gap(), 3);
        is("without ACTS", new LoopsToUnits().plan(7), 1);
    }

    private static void length() {
        LoopsToUnits x = loop(STREAM);
        is("length()", x.length(), 6);
        rowIs(x, "[6]");
        LoopsToUnits sums = loop("n+1;n+2;a+b");
        is("length()", sums.length(), 3);
        rowIs(sums, "[1]");
        LoopsToUnits products = loop("n*1;a*2;b+1");
        is("b waits a TICK for the one MULTIPLIER", products.length(), 6);
        rowIs(products, "[3]");
        is("without ACTS", new LoopsToUnits().length(), 0);
    }

    private static void state() {
        LoopsToUnits x = loop("n*1;a*2;b+1;n+1");
        is("GAP", x.gap(), 2);
        is("state(0)", x.state(0), 1 + 8);
        is("state(1)", x.state(1), 2 + 4);
        is("state(2)", x.state(2), -1);
        is("state(-1)", x.state(-1), -1);
        is("state(0) without ACTS", new LoopsToUnits().state(0), -1);
    }

    private static void tick() {
        LoopsToUnits x = loop("n*1;a*2;b+1;n+1");
        is("GAP", x.gap(), 2);
        rowIs(x, "[0, 3, 5, 0]");
        is("tick(4, 3)", x.tick(4, 3), 1 + 8);
        rowIs(x, "[2, -1, -1, 2]");
        is("tick(4, 2)", x.tick(4, 2), 0);
        rowIs(x, "[-1, -1, -1, -1]");
        is("tick(5, 40)", x.tick(5, 40), 2 + 4);
        rowIs(x, "[-1, 1, 0, -1]");
        is("tick(0, 0)", x.tick(0, 0), 0);
        rowIs(x, "[-1, -1, -1, -1]");
        is("tick(MAX, 40)", x.tick(Integer.MAX_VALUE, 40), 0);
        is("tick(-1, 1)", x.tick(-1, 1), -1);
        is("tick(0, 41)", x.tick(0, 41), -1);
        is("tick(0, -1)", x.tick(0, -1), -1);
    }

    private static void registers() {
        LoopsToUnits x = loop(STREAM);
        is("registers()", x.registers(), 3);
        rowIs(x, "[0]");
        LoopsToUnits ring = loop(RING);
        is("registers()", ring.registers(), 1);
        rowIs(ring, "[2]");
        LoopsToUnits none = loop("n+1;n*2");
        is("nothing is asked for", none.registers(), 0);
        rowIs(none, "[0]");
        LoopsToUnits chained = loop("n+1;a+1");
        chained.sets(0, 2);
        is("within a TICK nothing is kept", chained.registers(), 0);
        LoopsToUnits marks = loop("n+1;a''*a'");
        is("a'' two ROUNDS long", marks.registers(), 2);
        rowIs(marks, "[0]");
        LoopsToUnits empty = new LoopsToUnits();
        empty.knots();
        is("without ACTS", empty.registers(), 0);
        rowIs(empty, "[]");
    }

    private static void binds() {
        LoopsToUnits x = loop("n+1;2+n;n+3;2-4;n<1;5*n;n*5");
        x.sets(0, 3);
        is("GAP", x.gap(), 2);
        rowIs(x, "[0, 0, 0, 1, 1, 0, 1]");
        is("binds(0)", x.binds(0), 1);
        rowIs(x, "[0, 1, 2, 1, 0]");
        is("binds(1)", x.binds(1), 2);
        rowIs(x, "[0, 0]");
        is("binds(2)", x.binds(2), -1);
        is("binds(-1)", x.binds(-1), -1);
        rowIs(x, "[0, 0]");
        LoopsToUnits marks = loop("a'+1;a''+1");
        is("other ' are different", marks.binds(0), 1);
        rowIs(marks, "[0, 0]");
        is("none", marks.binds(1), 0);
        rowIs(marks, "[]");
        is("without ACTS", new LoopsToUnits().binds(0), 0);
    }

    private static void shares() {
        LoopsToUnits x = loop("A[0];A[1];A[2];A[3];B[0]");
        is("none", x.shares(0), 0);
        rowIs(x, "[]");
        x.sets(2, 4);
        is("shares(0)", x.shares(0), 6);
        rowIs(x, "[0, 1]");
        is("shares(1)", x.shares(1), 0);
        rowIs(x, "[]");
        x.sets(2, 2);
        is("shares(0)", x.shares(0), 2);
        rowIs(x, "[0, 1]");
        is("shares(2)", x.shares(2), -1);
        is("shares(-1)", x.shares(-1), -1);
        rowIs(x, "[0, 1]");
    }

    private static void plays() {
        LoopsToUnits x = loop("A[n]=n;b'+a;B[b]=c'");
        x.writes(0, 15, Integer.MAX_VALUE);
        is("plays(4)", x.plays(4), Integer.MAX_VALUE + 6);
        rowIs(x, "[3, 6, 0]");
        is("forgotten", x.cell(0, 3), 0);
        is("nothing is kept of it", x.count(14), 2);
        is("plays(0)", x.plays(0), Integer.MAX_VALUE);
        rowIs(x, "[0, 0, 0]");
        is("plays(41)", x.plays(41), -1);
        is("plays(-1)", x.plays(-1), -1);
        LoopsToUnits wraps = loop("a'*9;a-1;b<a");
        wraps.plays(40);
        rowIs(wraps, "[0, -1, 1]");
        LoopsToUnits great = loop("a'*9;b'+b';a''-b;n-1;b'+d");
        great.plays(2);
        rowIs(great, "[0, 0, 0, 0, 0]");
    }

    private static void machine() {
        LoopsToUnits x = loop("A[n];a*3;b+c';A[n]=c;B[c]=n");
        memoryAnswer(x, 0, "1,2,3,4,5,6,7,8");
        is("machine(5)", x.machine(5), 4 * x.gap() + x.length());
        int sum = x.plays(5);
        x.machine(5);
        rowIs(x, "[5, 15, 45, 45, 4, " + sum + "]");
        is("forgotten", x.cell(0, 0), 1);
        is("machine(0)", x.machine(0), 0);
        rowIs(x, "[0, 0, 0, 0, 0, 36]");
        is("machine(41)", x.machine(41), -1);
        is("machine(-1)", x.machine(-1), -1);
        rowIs(x, "[0, 0, 0, 0, 0, 36]");
        LoopsToUnits none = new LoopsToUnits();
        none.writes(1, 1, 7);
        is("without ACTS", none.machine(3), 0);
        rowIs(none, "[7]");
    }

    private static void saves() {
        LoopsToUnits x = loop(STREAM);
        x.knots();
        is("saves(4)", x.saves(4), 1015);
        is("saves(0)", x.saves(0), 1000);
        is("saves(1)", x.saves(1), 1000);
        rowIs(x, "[0]");
        is("saves(41)", x.saves(41), -1);
        is("saves(-1)", x.saves(-1), -1);
        LoopsToUnits slow = loop("A[0];b'+1;n-1;n-2;a*9;e'*1");
        is("as machine() and length() tell", slow.saves(9), 1000 + 9 * slow.length() - slow.machine(9));
    }

    private static void cheapest() {
        LoopsToUnits x = loop("n+1;n+2;n+3;n*1;n*2;B[0];B[1]");
        is("cheapest(1)", x.cheapest(1), 3 + 6 + 1 + 2);
        rowIs(x, "[3, 2, 1, 2]");
        is("UNITS stay", x.count(5), 1);
        is("cheapest(2)", x.cheapest(2), 2 + 3 + 1 + 1);
        rowIs(x, "[2, 1, 1, 1]");
        is("cheapest(60)", x.cheapest(60), 6);
        rowIs(x, "[1, 1, 1, 1]");
        is("cheapest(0)", x.cheapest(0), -1);
        is("cheapest(61)", x.cheapest(61), -1);
        x.sets(5, 1);
        x.knots();
        is("0 and 1 are at one BANK always", x.cheapest(1), -2);
        rowIs(x, "[0]");
        is("GAP", x.gap(), 3);
        is("a ring", loop(RING).cheapest(5), -2);
        LoopsToUnits all = loop("n+1;n+2;n+3;n+4;A[0];A[1];A[2];B[0];B[1];B[2]");
        all.sets(3, 2);
        is("cheapest(1)", all.cheapest(1), 4 + 3 + 4 + 4);
        rowIs(all, "[4, 1, 4, 4]");
        is("BANKS of B stay", all.count(8), 2);
        is("GAP stays", all.gap(), 4);
        is("without ACTS", new LoopsToUnits().cheapest(1), 6);
    }

    private static void would() {
        LoopsToUnits x = loop("n+1;n+2;n+3;c*c;A[n];A[d]");
        is("would(0, 2)", x.would(0, 2), 2);
        rowIs(x, "[1]");
        x.sets(0, 2);
        is("would(0, 1)", x.would(0, 1), 3);
        rowIs(x, "[-1]");
        is("it is so", x.would(0, 2), -2);
        is("others", x.would(0, 5), -1);
        is("others", x.would(9, 1), -1);
        is("others", x.would(-1, 1), -1);
        is("others", x.would(2, 3), -1);
        rowIs(x, "[-1]");
        is("GAP", x.gap(), 2);
        LoopsToUnits ring = loop(RING);
        is("would(7, 4)", ring.would(7, 4), 8);
        rowIs(ring, "[-2]");
        is("would(8, 1)", ring.would(8, 1), 5);
        rowIs(ring, "[1]");
        is("would(6, 10)", ring.would(6, 10), 6);
        is("nothing is kept of it", ring.count(14), 1);
    }

    private static void years() {
        LoopsToUnits x = loop(RING);
        x.sets(8, 3);
        int r = 7;
        int[] units = {1, 1, 1, 1, 4, 2};
        int[] most = {4, 3, 3, 3, 10, 4};
        for (int i = 0; i < 6; i++) {
            r = r * 1103515245 + 12345;
            int what = (r >>> 16) % 6;
            r = r * 1103515245 + 12345;
            int v = (r >>> 16) % most[what];
            units[what] = what == 2 || what == 3 ? 1 << v : v + 1;
        }
        int answer = x.years(7, 6);
        String told = row(x);
        int[] count = {5, 6, 7, 8, 11, 12};
        for (int i = 0; i < 6; i++) {
            is("UNITS become that", x.count(count[i]), units[i]);
        }
        is("GAP then", answer, x.gap());
        same("LENGTH, COST", told, "[" + x.length() + ", " + (units[0] + 3 * units[1] + units[2] + units[3]) + "]");
        is("nothing is kept of it", x.count(14), 2);
        is("years(7, 0)", x.years(7, 0), -1);
        is("years(7, 21)", x.years(7, 21), -1);
        is("years(-1, 20)", x.years(-1, 20) > 0, true);
        x.undo();
        is("an undo() brings UNITS back", x.count(5) + x.count(6) + x.count(7) + x.count(8), 4);
    }

    private static void keep() {
        LoopsToUnits x = loop(RING);
        is("keep(0)", x.keep(0), true);
        is("keep(1)", x.keep(1), true);
        is("keep(2)", x.keep(2), false);
        is("keep(-1)", x.keep(-1), false);
        is("nothing changes", x.count(14), 1);
        x.writes(0, 0, 4);
        is("keep(0)", x.keep(0), true);
        x.writes(0, 0, 5);
        x.again(0);
        is("the later one", x.cell(0, 0), 4);
        x.again(1);
        is("the other", x.cell(0, 0), 0);
    }

    private static void again() {
        LoopsToUnits x = loop(RING);
        x.writes(1, 3, 8);
        is("again(0)", x.again(0), false);
        is("again(2)", x.again(2), false);
        is("again(-1)", x.again(-1), false);
        is("refused: they stay", x.count(14), 2);
        x.sets(6, 9);
        x.keep(1);
        x.sets(0, 4);
        loopAnswer(x, "n+1");
        x.runs(3);
        Texts.tell(x, "ab");
        is("again(0)", x.again(0), false);
        is("again(1)", x.again(1), true);
        is("forgotten", x.count(14), 0);
        is("undo()", x.undo(), -1);
        is("ACTS", x.count(0), 4);
        is("ADDERS", x.count(5), 1);
        is("DELAY", x.count(11), 9);
        is("B", x.cell(1, 3), 8);
        is("gap()", x.gap(), 6);
        is("THE TEXT", x.count(16), 2);
        is("once more", x.again(1), true);
    }

    private static void count() {
        LoopsToUnits x = loop("n+1;n-1;n<1;n*1;A[0];B[0];A[1]=1");
        int[] due = {7, 3, 1, 2, 1, 1, 1, 1, 1, 0, 0, 4, 2, 2, 1, 0, 0};
        for (int what = 0; what < due.length; what++) {
            is("count(" + what + ")", x.count(what), due[what]);
        }
        is("count(17)", x.count(17), -1);
        is("count(-1)", x.count(-1), -1);
        x.least();
        is("count(15)", x.count(15), 5);
        x.sign(0);
        is("count(16)", x.count(16), 4);
    }

    private static void rows() {
        LoopsToUnits x = loop("n+1;n-1");
        throwsNone("row(0)", () -> x.row(0));
        x.plays(1);
        is("row(0)", x.row(0), 1);
        is("row(1)", x.row(1), -1);
        throwsNone("row(2)", () -> x.row(2));
        throwsNone("row(-1)", () -> x.row(-1));
        x.state(0);
        x.saves(3);
        x.sets(0, 2);
        x.begins(0);
        x.earliest(99);
        is("it stays with calls that do not tell of it", x.row(1), -1);
    }

    private static final Runnable[] ALL = {PromisesTest::newObject, PromisesTest::sign, PromisesTest::end,
        PromisesTest::loopTexts, PromisesTest::memoryTexts, PromisesTest::cell, PromisesTest::act, PromisesTest::sheet,
        PromisesTest::sets, PromisesTest::writes, PromisesTest::runs, PromisesTest::day, PromisesTest::undo,
        PromisesTest::least, PromisesTest::earliest, PromisesTest::latest, PromisesTest::knots, PromisesTest::address,
        PromisesTest::gap, PromisesTest::begins, PromisesTest::why, PromisesTest::plan, PromisesTest::length,
        PromisesTest::state, PromisesTest::tick, PromisesTest::registers, PromisesTest::binds, PromisesTest::shares,
        PromisesTest::plays, PromisesTest::machine, PromisesTest::saves, PromisesTest::cheapest, PromisesTest::would,
        PromisesTest::years, PromisesTest::keep, PromisesTest::again, PromisesTest::count, PromisesTest::rows};

    public static void main(String[] args) {
        for (Runnable one : ALL) {
            promise++;
            one.run();
        }
        System.out.println(passed + " passed, " + failed + " failed");
        System.exit(failed == 0 && promise == 38 ? 0 : 1);
    }
}
