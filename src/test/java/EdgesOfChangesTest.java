/** Boundary cases of promises 9 to 13: sets, writes, runs, day, undo. */
public final class EdgesOfChangesTest {
    private static final int[] AT_FIRST = {1, 1, 1, 1, 0, 0, 4, 2, 2};
    private static final int[][] MAY_BE = {{1, 2, 3, 4}, {1, 2, 3}, {1, 2, 4}, {1, 2, 4}, {0, 1}, {0, 1},
        {1, 2, 3, 4, 5, 6, 7, 8, 9, 10}, {1, 2, 3, 4}, {1, 2, 3}};

    static Edges all() {
        Edges e = new Edges();
        sets(e);
        writes(e);
        runs(e);
        day(e);
        dayWrong(e);
        undo(e);
        undoKinds(e);
        return e;
    }

    private static boolean mayBe(int what, int v) {
        for (int may : MAY_BE[what]) {
            if (may == v) {
                return true;
            }
        }
        return false;
    }

    private static void sets(Edges e) {
        e.promise(9);
        e.edge("What 0: ADDERS becomes v, 1: MULTIPLIERS, 2: BANKS of A, 3: of B, 4: WAY of A, 5: of B, 6: DELAY, 7: LONG, 8: REACH: what it was", p -> {
            for (int what = 0; what < 9; what++) {
                Probe q = p.fresh();
                int was = AT_FIRST[what];
                for (int v : MAY_BE[what]) {
                    if (v != was) {
                        q.is("sets(" + what + ", " + v + ")", q.x.sets(what, v), was);
                        q.is("it is", q.x.count(5 + what), v);
                        was = v;
                    }
                }
                q.is("the others", q.units().length(), p.units().length() + (what == 6 ? 1 : 0));
                q.is("back", q.x.sets(what, AT_FIRST[what]) >= 0, true);
                q.same("UNITS", q.units(), p.units());
            }
        });
        e.edge("-2: it is so", p -> {
            for (int what = 0; what < 9; what++) {
                int of = what;
                p.keepsAll("sets(" + of + ")", () -> p.x.sets(of, AT_FIRST[of]), -2);
                int other = MAY_BE[of][MAY_BE[of].length - 1];
                p.x.sets(of, other);
                p.keepsAll("sets(" + of + ") again", () -> p.x.sets(of, other), -2);
            }
        });
        e.edge("NONE: others", p -> {
            for (int what = 0; what < 9; what++) {
                int of = what;
                for (int v = -2; v <= 17; v++) {
                    int to = v;
                    if (!mayBe(of, to)) {
                        p.keepsAll("sets(" + of + ", " + to + ")", () -> p.x.sets(of, to), -1);
                    }
                }
                p.keepsAll("the greatest", () -> p.x.sets(of, Probe.MAX), -1);
                p.keepsAll("the least", () -> p.x.sets(of, Probe.MIN), -1);
            }
            for (int what : new int[] {-1, 9, Probe.MAX, Probe.MIN}) {
                p.keepsAll("sets(" + what + ", 1)", () -> p.x.sets(what, 1), -1);
            }
        });
    }

    private static void writes(Edges e) {
        e.promise(10);
        e.edge("A CELL of a MEMORY becomes v: 1", p -> {
            int[][] cells = {{0, 0}, {0, 15}, {1, 0}, {1, 15}};
            for (int[] a : cells) {
                p.is("the least", p.x.writes(a[0], a[1], Probe.MIN), 1);
                p.is("it is", p.x.cell(a[0], a[1]), Probe.MIN);
                p.is("the greatest", p.x.writes(a[0], a[1], Probe.MAX), 1);
                p.is("it is", p.x.cell(a[0], a[1]), Probe.MAX);
                p.is("0", p.x.writes(a[0], a[1], 0), 1);
            }
            p.same("A", p.cells(0), Probe.ZEROS);
            p.same("B", p.cells(1), Probe.ZEROS);
        });
        e.edge("-2: it is so", p -> {
            p.keepsAll("0 at first", () -> p.x.writes(0, 0, 0), -2);
            p.x.writes(1, 15, -7);
            p.keepsAll("again", () -> p.x.writes(1, 15, -7), -2);
            p.is("the same of A is not", p.x.writes(0, 15, -7), 1);
        });
        e.edge("NONE: no such CELL", p -> {
            int[][] none = {{-1, 0}, {2, 0}, {0, -1}, {0, 16}, {1, 16}, {1, -1}, {Probe.MIN, Probe.MIN}, {0, Probe.MAX}, {Probe.MAX, 0}};
            for (int[] a : none) {
                p.keepsAll("writes(" + a[0] + ", " + a[1] + ", 3)", () -> p.x.writes(a[0], a[1], 3), -1);
                p.keepsAll("writes(" + a[0] + ", " + a[1] + ", 0)", () -> p.x.writes(a[0], a[1], 0), -1);
            }
        });
    }

    private static void runs(Edges e) {
        e.promise(11);
        e.edge("n ROUNDS (0 .. 40) are played, and MEMORIES stay as they are then: n", p -> {
            p.loop("A[n];a+1;A[n]=b;B[0]=n");
            p.is("40", p.x.runs(40), 40);
            p.same("A", p.cells(0), "3 3 3 3 3 3 3 3 2 2 2 2 2 2 2 2");
            p.is("B", p.x.cell(1, 0), 39);
            p.row("2 3 3 39");
            p.is("1", p.x.runs(1), 1);
            p.is("from ROUND 0 on again", p.x.cell(0, 0), 4);
            p.row("3 4 4 0");
            p.is("0", p.x.runs(0), 0);
            p.is("nothing changed", p.x.cell(0, 0), 4);
        });
        e.edge("the ROW: VALUES of ACTS in the last one (0 with no ROUND)", p -> {
            p.loop("n+5;a'*a''");
            p.x.runs(3);
            p.row("7 30");
            p.x.runs(0);
            p.row("0 0");
            p.x.runs(1);
            p.row("5 0");
            Probe none = p.fresh();
            none.x.knots();
            none.is("without ACTS", none.x.runs(40), 40);
            none.row("");
            none.is("it was done", none.x.count(14), 1);
        });
        e.edge("NONE: another n", p -> {
            p.loop("A[n]=1");
            p.x.knots();
            for (int n : new int[] {-1, 41, Probe.MIN, Probe.MAX}) {
                p.keepsAll("runs(" + n + ")", () -> p.x.runs(n), -1);
            }
        });
    }

    private static void day(Edges e) {
        e.promise(12);
        e.edge("(an empty one: nothing)", p -> {
            p.loop("n+1");
            p.x.knots();
            String before = p.held();
            p.is("day()", p.x.day(), 0);
            p.row("0");
            p.same("all", p.held(), before);
            p.is("what can be undone", p.x.count(14), 1);
        });
        e.edge("(sets(), but DELAY of 10 can't be told)", p -> {
            p.is("every one", p.day("u04u13u24u34u41u51u69u74u83"), 9);
            p.same("UNITS", p.units(), "4 3 4 4 1 1 9 4 3");
            p.refusesText("u610", p.x::day, -4);
            p.is("the least ones", p.day("u01u11u21u31u40u50u61u71u81"), 9);
            p.same("UNITS", p.units(), "1 1 1 1 0 0 1 1 1");
        });
        e.edge("w, A or B, two digits (a CELL), a digit (writes())", p -> {
            p.is("the last CELLS", p.day("wA159wB158wA001wB002"), 4);
            p.is("A 15", p.x.cell(0, 15), 9);
            p.is("B 15", p.x.cell(1, 15), 8);
            p.is("A 0", p.x.cell(0, 0), 1);
            p.is("B 0", p.x.cell(1, 0), 2);
            p.is("CELL 16", p.day("wA163"), 0);
            p.row("1");
            p.is("CELL 99", p.day("wB993"), 0);
            p.row("1");
            p.is("to 0", p.day("wA000"), 1);
            p.row("0");
        });
        e.edge("r and a digit (runs(); its ROW is not told)", p -> {
            p.loop("A[n]=7;n+1;n+2");
            p.is("day()", p.day("r9"), 1);
            p.row("0");
            p.same("A", p.cells(0), "7 7 7 7 7 7 7 7 7 0 0 0 0 0 0 0");
            p.is("r0", p.day("r0"), 1);
            p.is("r0 was done", p.x.count(14), 3);
        });
        e.edge("they are done one by one, till one can't be (it answers below 0): how many were done", p -> {
            String[] stops = {"u02", "wA005", "u91", "u05", "u23", "u42", "u60", "wA161"};
            for (String stop : stops) {
                Probe q = p.fresh();
                q.is(stop, q.day("u02wA005" + stop + "u13"), 2);
                q.row("1");
                q.same("UNITS", q.units(), "2 1 1 1 0 0 4 2 2");
                q.is("A", q.x.cell(0, 0), 5);
                q.is("as one", q.x.count(14), 1);
            }
            Probe first = p.fresh();
            first.is("the first", first.day("wB000r1"), 0);
            first.row("1");
            first.is("nothing is kept", first.x.count(14), 0);
            Probe last = p.fresh();
            last.is("the last", last.day("r1r2wB000"), 2);
            last.row("1");
        });
        e.edge("the ROW: 1 if one could not be, else 0", p -> {
            p.x.least();
            p.day("u02");
            p.row("0");
            p.day("u02");
            p.row("1");
            p.day("r0");
            p.row("0");
        });
    }

    private static void dayWrong(Edges e) {
        e.edge("-1 - p: the sign at p can't stand there (its end, if it ends too early); nothing is done then", p -> {
            p.loop("A[n]=7");
            p.x.knots();
            String[] wrong = {"x", "ux1", "u0x", "u02x", "u02,r1", "wC001", "wAx01", "wA0x1", "wA00x", "wA001x", "rx", "r1x", "r12", "U02",
                " r1", "r1 ", "w0001", "u-11", "u:1", "u/1"};
            int[] at = {0, 1, 2, 3, 3, 1, 2, 3, 4, 5, 1, 2, 2, 0, 0, 2, 1, 1, 1, 1};
            for (int i = 0; i < wrong.length; i++) {
                p.refusesText(wrong[i], p.x::day, -1 - at[i]);
            }
            String whole = "u02wA005r1";
            for (int signs = 1; signs < whole.length(); signs++) {
                if (signs != 3 && signs != 8) {
                    p.refusesText(whole.substring(0, signs), p.x::day, -1 - signs);
                }
            }
            p.is("the whole", p.day(whole), 3);
            p.same("UNITS", p.units(), "2 1 1 1 0 0 4 2 2");
        });
        e.edge("CHANGES one behind another, without signs between", p -> {
            StringBuilder text = new StringBuilder();
            for (int i = 0; i < 16; i++) {
                text.append("wB").append(i / 10).append(i % 10).append("3");
            }
            p.is("80 signs", p.day(text.toString()), 16);
            p.same("B", p.cells(1), "3 3 3 3 3 3 3 3 3 3 3 3 3 3 3 3");
            p.is("as one", p.x.undo(), 0);
            p.same("B", p.cells(1), Probe.ZEROS);
        });
    }

    private static void undo(Edges e) {
        e.promise(13);
        e.edge("(of 9 that are kept, the latest ones", p -> {
            for (int v = 1; v <= 9; v++) {
                p.x.writes(0, 0, v);
                p.is("kept", p.x.count(14), v);
            }
            p.x.writes(0, 0, 10);
            p.is("the tenth", p.x.count(14), 9);
            p.x.writes(0, 0, 11);
            p.is("the eleventh", p.x.count(14), 9);
            for (int left = 8; left >= 0; left--) {
                p.is("undo()", p.x.undo(), left);
                p.is("CELL", p.x.cell(0, 0), left + 2);
            }
            p.keepsAll("no more", p.x::undo, -1);
            for (int v = 3; v <= 30; v++) {
                p.x.writes(0, 0, v);
            }
            p.is("undo()", p.x.undo(), 8);
            p.x.writes(0, 0, 50);
            p.is("kept", p.x.count(14), 9);
            for (int left = 8; left >= 0; left--) {
                p.is("undo()", p.x.undo(), left);
                p.is("CELL", p.x.cell(0, 0), left + 21);
            }
        });
        e.edge("of 9 that are kept", p -> {
            for (int v = 1; v <= 9; v++) {
                p.x.writes(0, 0, v);
            }
            p.keepsAll("a refused one is none of them", () -> p.x.sets(0, 5), -1);
            p.keepsAll("nor one that is so", () -> p.x.writes(0, 0, 9), -2);
            p.is("nor a day of which nothing was done", p.day("wA009"), 0);
            for (int left = 8; left >= 0; left--) {
                p.is("undo()", p.x.undo(), left);
                p.is("CELL", p.x.cell(0, 0), left);
            }
        });
        e.edge("such as were done, with empty texts, too", p -> {
            p.is("an empty loop()", p.x.loop(), 0);
            p.is("kept", p.x.count(14), 1);
            p.is("an empty memory()", p.x.memory(1), 0);
            p.is("kept", p.x.count(14), 2);
            p.is("runs(0)", p.x.runs(0), 0);
            p.is("kept", p.x.count(14), 3);
            p.refusesText("x", p.x::loop, -1);
            p.refusesText("x", () -> p.x.memory(0), -1);
            p.refusesText("1", () -> p.x.memory(2), -1);
            p.refusesText("x", p.x::day, -1);
            p.keepsAll("sets", () -> p.x.sets(0, 1), -2);
            p.keepsAll("writes", () -> p.x.writes(0, 0, 0), -2);
            p.keepsAll("runs", () -> p.x.runs(41), -1);
            p.is("undo()", p.x.undo(), 2);
        });
        e.edge("day() of which one CHANGE was done, as one", p -> {
            p.is("none", p.day("u01"), 0);
            p.is("kept", p.x.count(14), 0);
            p.is("one, and one that can't be", p.day("u02u02"), 1);
            p.is("kept", p.x.count(14), 1);
            p.is("four", p.day("u03u12wA005wB006"), 4);
            p.is("kept", p.x.count(14), 2);
            p.is("undo()", p.x.undo(), 1);
            p.same("UNITS", p.units(), "2 1 1 1 0 0 4 2 2");
            p.same("A", p.cells(0), Probe.ZEROS);
            p.same("B", p.cells(1), Probe.ZEROS);
            p.is("undo()", p.x.undo(), 0);
            p.same("UNITS", p.units(), p.fresh().units());
        });
        e.edge("Refused: none", p -> {
            p.keepsAll("at first", p.x::undo, -1);
            p.x.sets(0, 2);
            p.is("undo()", p.x.undo(), 0);
            p.keepsAll("once more", p.x::undo, -1);
        });
        e.edge("(again() forgets them, if it is not refused.)", p -> {
            p.x.sets(0, 2);
            p.x.sets(0, 3);
            p.keepsAll("again(0)", () -> Probe.bit(p.x.again(0)), 0);
            p.keepsAll("again(2)", () -> Probe.bit(p.x.again(2)), 0);
            p.x.keep(0);
            p.is("kept", p.x.count(14), 2);
            p.is("again(0)", p.x.again(0), true);
            p.is("forgotten", p.x.count(14), 0);
            p.keepsAll("undo()", p.x::undo, -1);
            p.x.sets(0, 4);
            p.is("later ones are kept", p.x.undo(), 0);
            p.is("ADDERS", p.x.count(5), 3);
        });
    }

    /** Changes, one behind the other; what is ahead of each must come back. */
    private static void undoKinds(Edges e) {
        e.edge("is undone (all that 1. tells of is as ahead of it): how many are left that can be", p -> {
            Runnable[] changes = {() -> p.loop("A[n]=n;b'*a"), () -> p.memory(0, "1,2,3"), () -> p.memory(1, "4"), () -> p.x.runs(5),
                () -> p.x.writes(1, 3, 3), () -> p.day("u02wA159r2"), () -> p.loop(""), () -> p.x.memory(0), () -> p.x.sets(6, 10)};
            String[] ahead = new String[changes.length];
            for (int i = 0; i < changes.length; i++) {
                ahead[i] = p.held();
                changes[i].run();
            }
            p.tell("abc");
            p.x.knots();
            String row = p.row();
            for (int i = changes.length - 1; i >= 0; i--) {
                p.is("undo()", p.x.undo(), i);
                p.same("all", p.held(), ahead[i]);
            }
            p.is("THE TEXT stays", p.x.count(16), 3);
            p.row(row);
        });
        e.edge("all that 1. tells of is as ahead of it", p -> {
            p.loop("A[n];a*3;b+1;A[n]=c");
            for (int what = 0; what < 9; what++) {
                int gap = p.x.gap();
                int length = p.x.length();
                p.x.sets(what, MAY_BE[what][MAY_BE[what].length - 1]);
                p.x.gap();
                p.is("undo()", p.x.undo(), 1);
                p.same("UNITS", p.units(), p.fresh().units());
                p.is("GAP", p.x.gap(), gap);
                p.is("length()", p.x.length(), length);
            }
            p.is("undo() of loop()", p.x.undo(), 0);
            p.is("GAP", p.x.gap(), 0);
            p.is("LEAST", p.x.least(), 0);
        });
    }

    public static void main(String[] args) {
        all().end(9, 13);
    }
}
