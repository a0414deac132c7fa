/** Boundary cases of promises 32 to 34: cheapest, would, years. */
public final class EdgesOfUnitsTest {
    private static final String RING = "A[n];a*3;b+1;A[n]=c";

    static Edges all() {
        Edges e = new Edges();
        cheapest(e);
        cheapestWrong(e);
        would(e);
        years(e);
        yearsWrong(e);
        return e;
    }

    private static void cheapest(Edges e) {
        e.promise(32);
        e.edge("The cheapest UNITS by which GAP would be G (1 .. 60) or less (all else as it is)", p -> {
            p.is("without ACTS", p.x.cheapest(1), 6);
            p.row("1 1 1 1");
            p.loop("n+1;n+2;n+3;n*1;n*2;n*3;A[0];A[2];B[0];B[2]");
            p.x.sets(0, 4);
            p.is("by 1", p.x.cheapest(1), 3 + 9 + 4 + 4);
            p.row("3 3 4 4");
            p.is("by 2", p.x.cheapest(2), 2 + 6 + 1 + 1);
            p.row("2 2 1 1");
            p.is("by 3", p.x.cheapest(3), 6);
            p.row("1 1 1 1");
            p.is("by 60", p.x.cheapest(60), 6);
            p.row("1 1 1 1");
            p.x.sets(4, 1);
            p.is("CELLS 0 and 2 of A are in one BANK by WAY 1", p.x.cheapest(1), -2);
            p.is("by 2 that is no matter", p.x.cheapest(2), 10);
            p.is("no more than 3 MULTIPLIERS", p.fresh("n*1;n*2;n*3;n*4").x.cheapest(1), -2);
            p.is("no more than 4 BANKS", p.fresh("A[0];A[1];A[2];A[3];A[4]").x.cheapest(1), -2);
            p.is("nor of B", p.fresh("B[0];B[1];B[2];B[3];B[4]").x.cheapest(1), -2);
            p.is("4 BANKS of each", p.fresh("A[0];A[1];A[2];A[3];B[0];B[1];B[2];B[3]").x.cheapest(1), 1 + 3 + 4 + 4);
            p.loop("n+1;n+2;n+3;n+4;n+5");
            p.is("no more than 4 ADDERS", p.x.cheapest(1), -2);
            p.is("by 2", p.x.cheapest(2), 8);
            p.row("3 1 1 1");
            p.loop("n+1;n+2;n+3;n+4");
            p.is("4 ADDERS", p.x.cheapest(1), 9);
            p.row("4 1 1 1");
        });
        e.edge("COST: ADDERS, three times MULTIPLIERS, BANKS of A and BANKS of B, added up: the least", p -> {
            String[] loops = {"n+1;n+2", "n*1;n*2", "A[0];A[1]", "B[0];B[1]"};
            int[] costs = {7, 9, 7, 7};
            String[] rows = {"2 1 1 1", "1 2 1 1", "1 1 2 1", "1 1 1 2"};
            for (int i = 0; i < loops.length; i++) {
                Probe q = p.fresh(loops[i]);
                q.is(loops[i], q.x.cheapest(1), costs[i]);
                q.row(rows[i]);
            }
        });
        e.edge("(of equal COST the least row)", p -> {
            p.loop("B[7];B[8];b+a;e''-c;n*d'");
            p.is("by 4", p.x.cheapest(4), 7);
            p.row("1 1 1 2");
            p.is("another row", p.x.would(0, 2), 4);
            p.is("as good", p.x.would(3, 2), 4);
            p.is("and neither", p.x.gap(), 5);
        });
    }

    private static void cheapestWrong(Edges e) {
        e.edge("-2: there are none", p -> {
            p.loop(RING);
            p.x.knots();
            p.keepsAll("by 5", () -> p.x.cheapest(5), -2);
            p.keepsAll("by 1", () -> p.x.cheapest(1), -2);
            p.is("by 6", p.x.cheapest(6), 6);
        });
        e.edge("NONE: another G", p -> {
            p.loop(RING);
            p.x.knots();
            for (int g : new int[] {0, 61, -1, Probe.MAX, Probe.MIN}) {
                p.keepsAll("cheapest(" + g + ")", () -> p.x.cheapest(g), -1);
                p.is("without ACTS", p.fresh().x.cheapest(g), -1);
            }
        });
        e.edge("GAP would be G (1 .. 60) or less (all else as it is)", p -> {
            p.loop("n+1;n+2;n+3;A[0];A[1]");
            p.x.sets(0, 2);
            p.x.sets(2, 2);
            String before = p.held();
            p.is("GAP", p.x.gap(), 2);
            p.is("by 1", p.x.cheapest(1), 3 + 3 + 2 + 1);
            p.same("UNITS stay", p.held(), before);
            p.is("GAP stays", p.x.gap(), 2);
            p.row("0 0 1 0 0");
            p.is("length()", p.x.length(), 2);
            Probe ring = p.fresh(RING);
            ring.day("u03u12u24");
            ring.x.cheapest(5);
            ring.same("UNITS stay, if there are none", ring.units(), "3 2 4 1 0 0 4 2 2");
            ring.x.cheapest(6);
            ring.same("and if there are", ring.units(), "3 2 4 1 0 0 4 2 2");
        });
    }

    private static void would(Edges e) {
        e.promise(33);
        e.edge("GAP, were one of UNITS otherwise (what, v as in sets()): it", p -> {
            p.loop("n+1;n+2;n*1;n*2;A[0];A[1];B[8];B[9];a'*1");
            for (int what = 0; what < 9; what++) {
                for (int v = 0; v <= 10; v++) {
                    int told = p.x.would(what, v);
                    Probe q = p.fresh("n+1;n+2;n*1;n*2;A[0];A[1];B[8];B[9];a'*1");
                    int set = q.x.sets(what, v);
                    q.is("would(" + what + ", " + v + ")", told, set < 0 ? set : q.x.gap());
                }
            }
            p.is("without ACTS", p.fresh().x.would(0, 2), 0);
        });
        e.edge("the ROW: by how much it would be less than GAP is (below 0, too)", p -> {
            p.loop("n+1;n+2;n+3");
            p.is("2 ADDERS", p.x.would(0, 2), 2);
            p.row("1");
            p.is("4 ADDERS", p.x.would(0, 4), 1);
            p.row("2");
            p.x.would(1, 2);
            p.row("0");
            p.x.sets(0, 3);
            p.is("1 ADDER", p.x.would(0, 1), 3);
            p.row("-2");
            Probe none = p.fresh();
            none.is("without ACTS", none.x.would(8, 3), 0);
            none.row("0");
        });
        e.edge("-2: it is so", p -> {
            p.loop(RING);
            p.x.knots();
            int[] first = {1, 1, 1, 1, 0, 0, 4, 2, 2};
            for (int what = 0; what < 9; what++) {
                int of = what;
                p.keepsAll("would(" + of + ")", () -> p.x.would(of, first[of]), -2);
            }
        });
        e.edge("NONE: others", p -> {
            p.loop(RING);
            p.x.knots();
            int[][] none = {{0, 0}, {0, 5}, {1, 0}, {1, 4}, {2, 0}, {2, 3}, {2, 5}, {3, 0}, {3, 3}, {3, 8}, {4, -1}, {4, 2}, {5, -1}, {5, 2}, {6, 0},
                {6, 11}, {7, 0}, {7, 5}, {8, 0}, {8, 4}, {9, 1}, {-1, 1}, {Probe.MAX, 1}, {Probe.MIN, 1}, {0, Probe.MAX}, {0, Probe.MIN}};
            for (int[] a : none) {
                p.keepsAll("would(" + a[0] + ", " + a[1] + ")", () -> p.x.would(a[0], a[1]), -1);
            }
        });
    }

    /** UNITS behind years(), by the document's words, in numbers that do not wrap by themselves. */
    private static String drawn(int seed, int n) {
        long all = 1L << 32;
        long r = seed & all - 1;
        int[] units = {1, 1, 1, 1, 0, 0, 4, 2, 2};
        int[] most = {4, 3, 3, 3, 10, 4};
        for (int i = 0; i < n; i++) {
            r = (r * 1103515245L + 12345L) % all;
            int what = (int) (r / 65536 % 6);
            r = (r * 1103515245L + 12345L) % all;
            int v = (int) (r / 65536 % most[what]);
            units[what < 4 ? what : what + 2] = what == 2 || what == 3 ? new int[] {1, 2, 4}[v] : v + 1;
        }
        StringBuilder told = new StringBuilder();
        for (int unit : units) {
            told.append(told.length() == 0 ? "" : " ").append(unit);
        }
        return told.toString();
    }

    private static void years(Edges e) {
        e.promise(34);
        e.edge("A DRAW of n: R = R times 1103515245 + 12345 (as ints; R is seed at first), (R without sign, by 65536) % n", p -> {
            // By the last two the first R ends with 16 bits of 1, and of 0.
            for (int seed : new int[] {0, 1, 2, 3, 4, 5, 6, 7, 8, 9, -1, -2, 12345, -98765, Probe.MAX, Probe.MIN, -1843676386, -1787779453}) {
                Probe q = p.fresh();
                for (int n : new int[] {1, 2, 20}) {
                    q = p.fresh("n+1;a*2;A[b];B[n]=c");
                    q.x.years(seed, n);
                    q.same("UNITS by " + seed + ", " + n, q.units(), drawn(seed, n));
                }
            }
        });
        e.edge("GAP then; the ROW: LENGTH of THE PLAN then (as length()), COST of UNITS then", p -> {
            p.x.least();
            p.is("without ACTS", p.x.years(5, 1), 0);
            p.is("two numbers", p.x.count(15), 2);
            p.is("no LENGTH", p.x.row(0), 0);
            for (int seed = 0; seed < 12; seed++) {
                Probe q = p.fresh("n+1;n+2;a*b;A[0];A[1];B[n]=c");
                int gap = q.x.years(seed, 20);
                String row = q.row();
                q.is("GAP", q.x.gap(), gap);
                q.same("the ROW", row, q.x.length() + " " + (q.x.count(5) + 3 * q.x.count(6) + q.x.count(7) + q.x.count(8)));
            }
        });
    }

    private static void yearsWrong(Edges e) {
        e.edge("n times (1 .. 20)", p -> {
            p.loop(RING);
            p.is("1", p.x.years(3, 1) > 0, true);
            p.is("20", p.x.years(3, 20) > 0, true);
            p.is("nothing is kept of it", p.x.count(14), 1);
            p.x.undo();
            p.same("an undo() brings UNITS back, too", p.units(), p.fresh().units());
        });
        e.edge("NONE: another n", p -> {
            p.loop(RING);
            p.x.knots();
            for (int n : new int[] {0, 21, -1, Probe.MAX, Probe.MIN}) {
                p.keepsAll("years(7, " + n + ")", () -> p.x.years(7, n), -1);
            }
        });
    }

    public static void main(String[] args) {
        all().end(32, 34);
    }
}
