import java.util.ArrayList;
import java.util.Arrays;
import java.util.HashSet;
import java.util.List;
import java.util.Set;

/** Boundary cases of promises 19 to 28: gap, begins, why, plan, length, state, tick, registers, binds, shares. */
public final class EdgesOfPlanTest {
    private static final String RING = "A[n];a*3;b+1;A[n]=c";
    /** GAP is 2, ACTS begin in TICKS 0, 3, 5, 0. */
    private static final String PIPE = "n*1;a*2;b+1;n+1";

    static Edges all() {
        Edges e = new Edges();
        gap(e);
        begins(e);
        why(e);
        plan(e);
        length(e);
        state(e);
        tick(e);
        registers(e);
        binds(e);
        bindsLeast(e);
        shares(e);
        return e;
    }

    private static void gap(Edges e) {
        e.promise(19);
        e.edge("GAP: it; the ROW: TICKS where ACTS begin in THE PLAN", p -> {
            p.is("without ACTS", p.x.gap(), 0);
            p.row("");
            p.loop("n+1;a+1");
            p.x.sets(0, 2);
            p.is("GAP", p.x.gap(), 1);
            p.row("0 0");
            p.loop(PIPE);
            p.x.sets(0, 1);
            p.is("GAP", p.x.gap(), 2);
            p.row("0 3 5 0");
            p.loop("j'*1;a*1;b*1;c*1;d*1;e*1;f*1;g*1;h*1;i*1");
            p.x.sets(7, 4);
            p.is("the greatest GAP", p.x.gap(), 40);
            p.row("0 4 8 12 16 20 24 28 32 36");
        });
    }

    private static void begins(Edges e) {
        e.promise(20);
        e.edge("TIME at which an ACT begins in THE PLAN", p -> {
            p.loop("n+1;a+1;b+1;c*1;1+1;1+1;1+1;1+1;1+1;1+1");
            p.x.sets(0, 4);
            int[] due = {0, 4, 10, 20, 0, 0, 10, 10, 10, 20};
            p.is("GAP", p.x.gap(), 3);
            for (int k = 0; k < 10; k++) {
                p.is("begins(" + k + ")", p.x.begins(k), due[k]);
            }
        });
        e.edge("NoSuchElementException: none such", p -> {
            p.noSuch("without ACTS", () -> p.x.begins(0));
            p.loop(PIPE);
            for (int k : new int[] {4, -1, 10, Probe.MAX, Probe.MIN}) {
                p.noSuch("begins(" + k + ")", () -> p.x.begins(k));
            }
            p.is("begins(3)", p.x.begins(3), 0);
            p.loop("n+1");
            p.noSuch("an ACT of the loop ahead", () -> p.x.begins(1));
        });
    }

    private static void why(Edges e) {
        e.promise(21);
        e.edge("1: NEED of SUMS, 2: of PRODUCTS, 4: of A, 8: of B, 16: RINGS are as great as it: they (0: none of them)", p -> {
            String[] loops = {"n+1;n+2", "n*1;n*2", "A[0];A[1]", "B[0];B[1]", "a'*2", "a'*2;n*1;n+1;n+2", "n+1", "n*1;n+1;A[0];B[0]", "n*b';n*n"};
            int[] bits = {1, 2, 4, 8, 16, 16 + 2 + 1, 16 + 1, 31, 0};
            for (int i = 0; i < loops.length; i++) {
                p.is(loops[i], p.fresh(loops[i]).x.why(), bits[i]);
            }
            p.is("without ACTS", p.x.why(), 31);
        });
        e.edge("the ROW: by how many LEAST is less than it", p -> {
            p.x.why();
            p.row("0");
            p.loop(RING);
            p.x.why();
            p.row("0");
            p.loop("n*b';n*n");
            p.x.why();
            p.row("1");
            p.loop("A[n];A[a];A[b];A[c]");
            p.x.sets(2, 4);
            p.is("none", p.x.why(), 0);
            p.row("3");
        });
    }

    private static void plan(Edges e) {
        e.promise(22);
        e.edge("Whether there is a PLAN by G (1 .. 60): 1, 0; the ROW (if there is): TICKS where ACTS begin", p -> {
            p.is("without ACTS", p.x.plan(1), 1);
            p.row("");
            p.is("without ACTS", p.x.plan(60), 1);
            p.loop("n*b';n*n");
            p.x.least();
            p.keepsAll("too few MULTIPLIERS", () -> p.x.plan(1), 0);
            p.keepsAll("too early", () -> p.x.plan(2), 0);
            p.is("by 3", p.x.plan(3), 1);
            p.row("0 1");
            p.is("by 60", p.x.plan(60), 1);
            p.row("0 1");
        });
        e.edge("0, too, if there are no EARLIEST", p -> {
            p.loop(RING);
            p.x.knots();
            p.keepsAll("by 5", () -> p.x.plan(5), 0);
            p.keepsAll("by 1", () -> p.x.plan(1), 0);
            p.is("by 6", p.x.plan(6), 1);
            p.row("0 2 4 5");
        });
        e.edge("NONE: another G", p -> {
            p.loop(RING);
            p.x.knots();
            for (int g : new int[] {0, 61, -1, Probe.MIN, Probe.MAX}) {
                p.keepsAll("plan(" + g + ")", () -> p.x.plan(g), -1);
                p.is("without ACTS", p.fresh().x.plan(g), -1);
            }
        });
        e.edge("Whether there is a PLAN by G", p -> {
            p.loop("n*1;a*2;b*3");
            p.is("GAP", p.x.gap(), 3);
            p.row("0 2 4");
            p.x.plan(1);
            p.x.plan(4);
            p.row("0 2 5");
            p.is("THE PLAN stays", p.x.begins(2), 40);
            p.is("and GAP", p.x.state(3), -1);
        });
    }

    private static void length(Edges e) {
        e.promise(23);
        e.edge("TICKS from the begin of THE PLAN to the last READY, rounded up: how many (0 without ACTS)", p -> {
            p.is("without ACTS", p.x.length(), 0);
            p.row("0");
            p.loop("n+1");
            p.is("4 PARTS", p.x.length(), 1);
            p.x.sets(6, 10);
            p.is("10 PARTS", p.x.length(), 1);
            p.loop("n*1;a+1");
            p.is("30 PARTS", p.x.length(), 3);
            p.x.sets(6, 1);
            p.is("21 PARTS", p.x.length(), 3);
            p.loop("n*1;a+1;n+1;n*1");
            p.x.sets(0, 2);
            p.x.sets(1, 2);
            p.is("21 PARTS, and not of the last ACT", p.x.length(), 3);
            p.x.sets(0, 1);
            p.loop("n+1;A[n]=1");
            p.is("the last READY is no SUM", p.x.length(), 1);
            p.loop("A[n]");
            p.x.sets(8, 3);
            p.is("REACH", p.x.length(), 3);
            p.loop("n+1;n+2;n+3");
            p.is("THE PLAN, not EARLIEST", p.x.length(), 3);
        });
        e.edge("(that, by GAP, rounded up; 0 without ACTS)", p -> {
            p.loop(PIPE);
            p.is("6 TICKS by 2", p.x.length(), 6);
            p.row("3");
            p.loop("n*1;a*2;n+1;n+2");
            p.is("5 TICKS by 2", p.x.length(), 5);
            p.row("3");
            p.loop(RING);
            p.is("6 TICKS by 6", p.x.length(), 6);
            p.row("1");
            p.loop("A[n];a*3;b+1;B[n]=c");
            p.is("6 TICKS by 1", p.x.length(), 6);
            p.row("6");
            p.loop("");
            p.is("without ACTS", p.x.length(), 0);
            p.row("0");
        });
    }

    private static void state(Edges e) {
        e.promise(24);
        e.edge("ACTS that begin in TICKS that are t modulo GAP (t 0 .. GAP - 1): they", p -> {
            p.loop(PIPE);
            p.is("state(0)", p.x.state(0), 1 + 8);
            p.is("TICKS 3 and 5 are 1", p.x.state(1), 2 + 4);
            p.loop(RING);
            int[] due = {1, 0, 2, 0, 4, 8};
            for (int t = 0; t < 6; t++) {
                p.is("state(" + t + ")", p.x.state(t), due[t]);
            }
        });
        e.edge("NONE: another t", p -> {
            p.x.least();
            p.keepsAll("without ACTS", () -> p.x.state(0), -1);
            p.loop(PIPE);
            for (int t : new int[] {2, 3, -1, -2, Probe.MAX, Probe.MIN}) {
                p.keepsAll("state(" + t + ")", () -> p.x.state(t), -1);
            }
        });
    }

    private static void tick(Edges e) {
        e.promise(25);
        e.edge("ACTS that begin in TICK t (0 on) if n ROUNDS (0 .. 40) are done by THE PLAN, ROUND r GAP times r TICKS later: they", p -> {
            p.loop(PIPE);
            int[][] due = {{0, 0, 0}, {0, 1, 9}, {0, 40, 9}, {1, 40, 0}, {2, 1, 0}, {2, 2, 9}, {3, 1, 2}, {5, 1, 4}, {5, 2, 6}, {7, 2, 4},
                {9, 2, 0}, {78, 40, 9}, {78, 39, 0}, {80, 40, 0}, {81, 40, 6}, {83, 40, 4}, {85, 40, 0}, {Probe.MAX, 40, 0}, {Probe.MAX - 1, 40, 0}};
            for (int[] a : due) {
                p.is("tick(" + a[0] + ", " + a[1] + ")", p.x.tick(a[0], a[1]), a[2]);
            }
        });
        e.edge("the ROW: of ACTS the ROUND (NONE of others)", p -> {
            p.x.least();
            p.is("without ACTS", p.x.tick(0, 40), 0);
            p.row("");
            p.loop(PIPE);
            p.x.tick(0, 1);
            p.row("0 -1 -1 0");
            p.x.tick(81, 40);
            p.row("-1 39 38 -1");
            p.x.tick(78, 40);
            p.row("39 -1 -1 39");
            p.x.tick(0, 0);
            p.row("-1 -1 -1 -1");
        });
        e.edge("NONE: t below 0, another n", p -> {
            p.loop(PIPE);
            p.x.least();
            int[][] none = {{-1, 1}, {Probe.MIN, 1}, {0, -1}, {0, 41}, {0, Probe.MIN}, {0, Probe.MAX}, {-1, 41}};
            for (int[] a : none) {
                p.keepsAll("tick(" + a[0] + ", " + a[1] + ")", () -> p.x.tick(a[0], a[1]), -1);
            }
        });
    }

    private static void registersAre(Probe p, String loop, int many, String first) {
        Probe q = p.fresh(loop);
        q.is("registers of " + loop, q.x.registers(), many);
        q.row(first);
    }

    private static void registers(Edges e) {
        e.promise(26);
        e.edge("if it is READY at that TIME or ahead of it", p -> {
            registersAre(p, "n+1;a*1", 1, "0");
            Probe q = p.fresh("n+1;a*1");
            q.x.sets(6, 10);
            q.is("READY at that TIME", q.x.registers(), 1);
            registersAre(p, "n*1;a+1", 1, "0");
            registersAre(p, "A[0]=n;a*1", 1, "0");
        });
        e.edge("some ACT that has its letter as OPERAND begins at that TIME or behind it", p -> {
            registersAre(p, "n+1;n*1", 0, "0");
            registersAre(p, "n*1;a*2", 1, "0");
            Probe within = p.fresh("n+1;a+1");
            within.x.sets(0, 2);
            within.is("within one TICK", within.x.registers(), 0);
            within.row("0");
            registersAre(p, "n+1;A[a];A[0]=b", 1, "0");
            registersAre(p, "n+1;B[a]=a", 1, "0");
            registersAre(p, "n+1;B[0]=a;A[a]", 1, "0");
            registersAre(p, "n+1;1*a", 1, "0");
            registersAre(p, "n+1;B[0]=a", 1, "0");
            registersAre(p, "n*1;1+a;n+1", 1, "0");
            registersAre(p, "n+1;n*2;n+3;n*4;n+5;n*6;n+7;n*8;n+9;n*0", 0, "0");
            registersAre(p, "n+1;n+2;n+3;n+4;n+5;n+6;n+7;n+8;n+9;n+0", 0, "0");
            Probe shorter = p.fresh("n*1;a*1;a*b;b*a;c*a;d*a;e*a");
            shorter.x.registers();
            shorter.loop("n*1;a+1");
            shorter.is("those of the loop ahead count no more", shorter.x.registers(), 1);
            shorter.row("0");
            Probe unused = p.fresh("n*1;n+1;b*1").with(1, 2);
            unused.is("a is never kept", unused.x.registers(), 1);
            unused.row("0");
            Probe ninth = p.fresh("n+1;n+1;n+1;n+1;n+1;n+1;n+1;n+1;n+1;i*1").with(0, 4);
            ninth.is("i, in TICK 1", ninth.x.registers(), 1);
            ninth.row("1");
            Probe late = p.fresh("n*1;a*1;b*1;c*1;d+1").with(1, 3).with(7, 3);
            late.is("up to TICK 12", late.x.registers(), 2);
            late.row("0");
        });
        e.edge("(in its own ROUND, or, with ', the ROUND behind, with '' the one behind that)", p -> {
            registersAre(p, "n+1;a'*1", 1, "0");
            registersAre(p, "n+1;a''*1", 2, "0");
            registersAre(p, "n+1;a*1;a''*1", 2, "0");
            registersAre(p, "a'+1", 1, "0");
            registersAre(p, "a''+1", 2, "0");
            registersAre(p, "a'+1;1+1;1+1;1+1;1+1;1+1;1+1;1+1;1+1;1+1", 1, "0");
            registersAre(p, "a''+1;1+1;1+1;1+1;1+1;1+1;1+1;1+1;1+1;1+1", 2, "0");
            registersAre(p, "1+j';1+1;1+1;1+1;1+1;1+1;1+1;1+1;1+1;1+1", 1, "0");
        });
        e.edge("(each as of all ROUNDS, before and after, too)", p ->
                registersAre(p, "A[n];a*3;b+1;B[n]=c", 3, "0"));
        e.edge("the ROW: the first such t (nothing without ACTS)", p -> {
            p.x.least();
            p.is("without ACTS", p.x.registers(), 0);
            p.row("");
            registersAre(p, RING, 1, "2");
            registersAre(p, "n+1", 0, "0");
        });
    }

    private static void binds(Edges e) {
        e.promise(27);
        e.edge("two whose TICKS are the same modulo GAP to different ones", p -> {
            p.loop("n+1;n+1");
            p.is("one ADDER, two TICKS", p.x.binds(0), 0);
            p.row("0 0");
            p.x.sets(0, 2);
            p.is("one TICK", p.x.binds(0), 0);
            p.row("0 1");
            p.loop("n*1;n*1;n*1");
            p.x.sets(1, 3);
            p.is("one TICK", p.x.binds(1), 0);
            p.row("0 1 2");
            p.loop("n+1;n+1;n+1;a*c");
            p.is("GAP", p.x.gap(), 2);
            p.row("0 1 0 1");
            p.is("TICKS 0, 1 and 0", p.x.binds(0), 0);
            p.row("0 0 1");
            p.loop("n*1;a*1");
            p.x.sets(1, 1);
            p.is("TICKS 0 and 3", p.x.binds(1), 1);
            p.row("0 0");
            p.x.sets(1, 2);
            p.is("TICKS 0 and 2 are the same modulo 1", p.x.binds(1), 0);
            p.row("0 1");
        });
        e.edge("for each unit and each side (first, second OPERAND) how many different OPERANDS", p -> {
            p.loop("1+2;2+1");
            p.is("both sides", p.x.binds(0), 2);
            p.loop("1+2;1-2");
            p.is("none", p.x.binds(0), 0);
            p.loop("n+2;n<3");
            p.is("the second", p.x.binds(0), 1);
            p.loop("2*n;3*n");
            p.is("the first", p.x.binds(1), 1);
            p.loop("n+1;2*n;A[n];3*n;5+n");
            p.is("of PRODUCTS alone", p.x.binds(1), 1);
            p.row("0 0");
            p.is("of SUMS alone", p.x.binds(0), 2);
            p.row("0 0");
            p.loop("n*1;2+n;A[n];3+n;5*n");
            p.is("of PRODUCTS alone", p.x.binds(1), 2);
            p.row("0 0");
            p.is("of SUMS alone", p.x.binds(0), 1);
            p.row("0 0");
            p.loop("1+2;2+3;3+4;4+5;5+6;6+7;7+8;8+9;9+0;0+1");
            p.is("ten of each", p.x.binds(0), 18);
            p.row("0 0 0 0 0 0 0 0 0 0");
        });
        e.edge("(as told; with other ' are different)", p -> {
            p.loop("a'+1;a''+1;a+1");
            p.is("three", p.x.binds(0), 2);
            p.loop("j'+1;i''+1;1+1;1+1;1+1;1+1;1+1;1+1;1+1;n+j''");
            p.is("j', i'', 1, n; 1, j''", p.x.binds(0), 4);
        });
        e.edge("different OPERANDS (as told", p -> {
            String all = "0123456789nabcdefgh";
            for (int i = 0; i < 39; i++) {
                for (int j = 0; j <= i; j++) {
                    Probe q = p.fresh("A[0];A[0];A[0];A[0];A[0];A[0];A[0];A[0];" + operand(all, i) + "-1;" + operand(all, j) + "<1");
                    q.is(operand(all, i) + " and " + operand(all, j), q.x.binds(0), i == j ? 0 : 1);
                }
            }
        });
        e.edge("less 1 (none: 0), added up: how many", p -> {
            p.is("without ACTS", p.x.binds(0), 0);
            p.row("");
            p.loop("n+1");
            p.x.sets(0, 4);
            p.is("three of four have none", p.x.binds(0), 0);
            p.row("0");
            p.is("no PRODUCTS", p.x.binds(1), 0);
            p.row("");
        });
        e.edge("NONE: another what", p -> {
            p.loop("n+1");
            p.x.least();
            for (int what : new int[] {2, -1, Probe.MAX, Probe.MIN}) {
                p.keepsAll("binds(" + what + ")", () -> p.x.binds(what), -1);
            }
        });
    }

    /** One of 39 OPERANDS: single signs, then a' .. j', a'' .. j''. */
    private static String operand(String all, int i) {
        int letter = i - all.length();
        return letter < 0 ? all.substring(i, i + 1) : (char) ('a' + letter % 10) + (letter < 10 ? "'" : "''");
    }

    /** SWITCHES of a row of units (below 0: two in one TICK are at one unit). */
    private static int switches(Probe p, List<Integer> acts, int[] units) {
        int gap = p.x.gap();
        Set<String> there = new HashSet<>();
        Set<String> sides = new HashSet<>();
        Set<Integer> used = new HashSet<>();
        for (int i = 0; i < units.length; i++) {
            if (!there.add(units[i] + " in " + p.x.begins(acts.get(i)) / 10 % gap)) {
                return -1;
            }
            sides.add(units[i] + " first " + p.x.act(acts.get(i), 2));
            sides.add(units[i] + " second " + p.x.act(acts.get(i), 3));
            used.add(units[i]);
        }
        return sides.size() - 2 * used.size();
    }

    /** The fewest SWITCHES of SUMS and the least row of as few, by looking at all of them. */
    private static String fewest(Probe p, int adders) {
        List<Integer> sums = new ArrayList<>();
        for (int k = 0; k < p.x.count(0); k++) {
            if (p.x.act(k, 0) <= 2) {
                sums.add(k);
            }
        }
        int[] row = new int[sums.size()];
        String best = "";
        int few = 99;
        for (int code = 0; code < Math.pow(adders, row.length); code++) {
            int rest = code;
            for (int i = row.length - 1; i >= 0; i--) {
                row[i] = rest % adders;
                rest /= adders;
            }
            int many = switches(p, sums, row);
            if (many >= 0 && many < few) {
                few = many;
                best = many + ": " + Arrays.toString(row).replaceAll("[\\[\\],]", "");
            }
        }
        return best;
    }

    private static void bindsLeast(Edges e) {
        e.edge("SWITCHES are the fewest", p -> {
            String[] loops = {"1+2;3+4;0+2;n+n;a*d", "2+1;4+3;2+0;n+n;a*d", "n+1;2+n;n+3;2-4;n<1", "n+1;a+1;n+2;a+2;b+1;3+n", "1+2;3+4;1+4;3+2;n*1;5+2", "n+n;a+a;a+n;n+a;b-c;c-b",
                "1+2;2+1;1+1;2+2;n+1;1+n", "a'+1;1+a';a''+1;1+a'';b'+1;1+b'"};
            for (String loop : loops) {
                for (int adders = 1; adders <= 4; adders++) {
                    Probe q = p.fresh(loop);
                    q.x.sets(0, adders);
                    int many = q.x.binds(0);
                    q.same(loop + " by " + adders, many + ": " + q.row(), fewest(p.fresh(loop).with(0, adders), adders));
                }
            }
        });
        e.edge("so that SWITCHES are the fewest", p -> {
            // b and c begin in TICKS that are 0 modulo 2, so that d is bound with one of them.
            p.loop("n*1;a+1;n+2;5+1");
            p.x.sets(0, 2);
            p.is("GAP", p.x.gap(), 2);
            p.row("0 2 0 1");
            p.is("5+1 with a+1: one side", p.x.binds(0), 1);
            p.row("0 1 0");
        });
        e.edge("(of as few the least row)", p -> {
            p.loop("n+1;2+n;n+3;2-4;n<1;5*n;n*5");
            p.x.sets(0, 3);
            p.is("GAP", p.x.gap(), 2);
            p.row("0 0 0 1 1 0 1");
            p.is("SWITCHES", p.x.binds(0), 1);
            p.row("0 1 2 1 0");
            Probe four = p.fresh("n+1;n+1;n+1;n+1;n+1;n+1;n+1;n+1;n+1;n+1");
            four.x.sets(0, 4);
            four.is("GAP", four.x.gap(), 3);
            four.is("alike", four.x.binds(0), 0);
            four.row("0 1 2 3 0 1 2 3 0 1");
        });
    }

    private static void shares(Edges e) {
        e.promise(28);
        e.edge("how many such pairs; the ROW: the first pair (the least first, then the least second; nothing without)", p -> {
            p.x.least();
            p.is("without ACTS", p.x.shares(0), 0);
            p.row("");
            p.loop("B[5];A[0];n+1;A[1];A[2];A[3];B[6]");
            p.x.sets(2, 4);
            p.x.sets(3, 2);
            p.is("GAP", p.x.gap(), 1);
            p.is("four of A", p.x.shares(0), 6);
            p.row("1 3");
            p.is("two of B", p.x.shares(1), 1);
            p.row("0 6");
            p.x.sets(2, 1);
            p.is("none in one TICK", p.x.shares(0), 0);
            p.row("");
        });
        e.edge("Where two of a MEMORY's ACTS begin in one TICK modulo GAP", p -> {
            p.loop("n+3;A[n];A[a]");
            p.x.sets(2, 4);
            p.is("GAP", p.x.gap(), 1);
            p.row("0 0 1");
            p.is("TICKS 0 and 1 are the same modulo 1", p.x.shares(0), 1);
            p.row("1 2");
            Probe two = p.fresh("A[0];A[1];A[2];A[3];B[5];B[4];B[7];B[6];B[9]").with(2, 2).with(3, 2);
            two.is("GAP", two.x.gap(), 3);
            two.row("0 0 1 1 0 0 1 1 2");
            two.is("of A, in TICKS 0 and 1", two.x.shares(0), 2);
            two.row("0 1");
            two.is("of B, in TICKS 0 and 1", two.x.shares(1), 2);
            two.row("4 5");
            Probe late = p.fresh("A[n];A[0];A[4];A[1]").with(2, 4);
            late.is("GAP", late.x.gap(), 3);
            late.row("0 1 2 1");
            late.is("in TICK 1 alone", late.x.shares(0), 1);
            late.row("1 3");
        });
        e.edge("NONE: no such MEMORY", p -> {
            p.loop("A[0];A[1]");
            p.x.least();
            for (int m : new int[] {2, -1, Probe.MAX, Probe.MIN}) {
                p.keepsAll("shares(" + m + ")", () -> p.x.shares(m), -1);
            }
        });
    }

    public static void main(String[] args) {
        all().end(19, 28);
    }
}
