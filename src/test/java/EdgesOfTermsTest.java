import java.util.ArrayList;
import java.util.Collections;
import java.util.List;

/** Boundary cases that the document's terms name: loops, VALUES, UNITS, BOUNDS, NEEDS, ADDRESSES, PLANS, ROOM. */
public final class EdgesOfTermsTest {
    private static final String SUMS = "n+1;a+1;b+1;c+1;d+1;e+1;f+1;g+1;h+1;i+1";

    static Edges all() {
        Edges e = new Edges();
        e.promise(0);
        loops(e);
        values(e);
        cells(e);
        units(e);
        times(e);
        bounds(e);
        needs(e);
        addresses(e);
        plans(e);
        room(e);
        gaps(e);
        rows(e);
        return e;
    }

    private static void loops(Edges e) {
        e.edge("THE LOOP is a text (at first none)", p -> {
            p.is("ACTS", p.x.count(0), 0);
            p.is("LEAST", p.x.least(), 0);
        });
        e.edge("(at most 10)", p -> {
            p.is("10", p.loop(SUMS), 10);
            p.refusesLoop(SUMS + ";1+1", 39);
        });
        e.edge("a letter of an ACT told ahead of it", p -> {
            p.is("the ACT right ahead", p.loop("1+1;a+a"), 2);
            p.is("the first and the ninth", p.loop("1+1;1+1;1+1;1+1;1+1;1+1;1+1;1+1;1+1;a*i"), 10);
            p.refusesLoop("1+1;b+1", 4);
            p.refusesLoop("1+1;1+c;1+1", 6);
        });
        e.edge("a letter a .. j with ' or '' behind it, of any ACT of THE LOOP", p -> {
            p.is("its own", p.loop("a'+a''"), 1);
            p.is("the last one's", p.loop("j'+j'';" + SUMS.substring(4)), 10);
            p.refusesLoop("k'+1", 0);
        });
        e.edge("a digit; n", p -> {
            p.is("0 and 9", p.loop("0+9;n*n"), 2);
            p.refusesLoop("10+1", 1);
            p.refusesLoop("m+1", 0);
            p.refusesLoop("o+1", 0);
            p.refusesLoop("`+1", 0);
            p.refusesLoop("`'+1", 0);
            p.refusesLoop("k+1", 0);
            p.refusesLoop("/+1", 0);
            p.refusesLoop(":+1", 0);
        });
    }

    private static void values(Edges e) {
        e.edge("VALUE of an ACT, as an int: the sum, difference, product", p -> {
            p.x.writes(0, 0, Probe.MAX);
            p.x.writes(0, 1, Probe.MIN);
            p.loop("A[0];A[1];a+1;b-1;a*a;b*b;a+b;b*9");
            p.x.plays(1);
            p.row("2147483647 -2147483648 -2147483648 2147483647 1 0 -1 -2147483648");
        });
        e.edge("of < 1 or 0", p -> {
            p.x.writes(0, 0, Probe.MAX);
            p.x.writes(0, 1, Probe.MIN);
            p.loop("A[0];A[1];b<a;a<b;a<a;1<2;2<2;3<2");
            p.x.plays(1);
            p.row("2147483647 -2147483648 1 0 0 1 0 0");
        });
        e.edge("of a LOAD what the CELL holds; of a STORE what it writes to the CELL", p -> {
            p.x.writes(0, 3, 5);
            p.loop("A[3];A[3]=8;A[3];B[3];B[3]=c");
            p.x.plays(1);
            p.row("5 8 8 0 8");
        });
        e.edge("with ' in the ROUND ahead, with '' in the one ahead of that (0, if there is none)", p -> {
            p.loop("n+1;a'+0;a''+0;e'+0;n+5");
            p.x.plays(1);
            p.row("1 0 0 0 5");
            p.x.plays(2);
            p.row("2 1 0 5 6");
            p.x.plays(3);
            p.row("3 2 1 6 7");
        });
        e.edge("n (the number of the ROUND)", p -> {
            p.loop("n+0");
            p.x.plays(1);
            p.row("0");
            p.x.plays(40);
            p.row("39");
        });
    }

    private static void cells(Edges e) {
        e.edge("MEMORIES A, B (0, 1) have CELLS 0 .. 15, ints (at first 0)", p -> {
            p.same("A", p.cells(0), Probe.ZEROS);
            p.same("B", p.cells(1), Probe.ZEROS);
            p.noSuch("CELL 16", () -> p.x.cell(0, 16));
            p.is("an int", p.x.writes(1, 15, Probe.MIN), 1);
            p.is("the least one", p.x.cell(1, 15), Probe.MIN);
        });
        e.edge("CELL of an OPERAND: it modulo 16 (0 at least)", p -> {
            int[] operands = {-1, 16, -16, 15, 17, -17, Probe.MAX, Probe.MIN};
            int[] cells = {15, 0, 0, 15, 1, 15, 15, 0};
            for (int i = 0; i < operands.length; i++) {
                Probe q = p.fresh("A[0];B[a]=7;B[a]");
                q.x.writes(0, 0, operands[i]);
                q.x.runs(1);
                q.is("CELL of " + operands[i], q.x.cell(1, cells[i]), 7);
                q.row(operands[i] + " 7 7");
            }
        });
    }

    /** As the document tells it, to find out which CELLS may come together. */
    private static int bank(int way, int banks, int x) {
        return way == 0 ? x % banks : x / (16 / banks);
    }

    private static void units(Edges e) {
        e.edge("ADDERS 1 .. 4, MULTIPLIERS 1 .. 3, BANKS of A, of B 1, 2 or 4 (at first 1 of each); WAY of A, of B 0 or 1 (at first 0)",
                p -> p.same("UNITS", p.units().substring(0, 11), "1 1 1 1 0 0"));
        e.edge("DELAY 1 .. 10 PARTS (at first 4), LONG 1 .. 4 TICKS (at first 2), REACH 1 .. 3 TICKS (at first 2)",
                p -> p.same("UNITS", p.units().substring(12), "4 2 2"));
        e.edge("the BANK of CELL x: by WAY 0 x modulo BANKS, by 1 x by (16 by BANKS), cut", p -> {
            for (int code = 0; code < 600; code++) {
                int banks = 1 << code % 3;
                int way = code / 3 % 2;
                int one = code / 6 % 10;
                int two = code / 60;
                String memory = (one + two) % 2 == 0 ? "A" : "B";
                Probe q = p.fresh(memory + "[" + one + "];" + memory + "[" + two + "]");
                q.x.sets(2 + (one + two) % 2, banks);
                q.x.sets(4 + (one + two) % 2, way);
                boolean meet = bank(way, banks, one) == bank(way, banks, two);
                q.is("GAP of CELLS " + one + ", " + two + ", BANKS " + banks + ", WAY " + way, q.x.gap(), meet ? 2 : 1);
            }
        });
    }

    private static String chainOfSums(int delay) {
        List<Integer> times = new ArrayList<>();
        for (int k = 0; k < 10; k++) {
            int inTick = 10 / delay;
            times.add(k / inTick * 10 + k % inTick * delay);
        }
        return times.toString().replaceAll("[\\[\\],]", "");
    }

    private static void times(Edges e) {
        e.edge("A SUM may begin at a TIME from which DELAY PARTS are left in that TICK", p -> {
            p.loop(SUMS);
            p.x.sets(6, 3);
            p.is("LENGTH", p.x.earliest(1), 4);
            p.row("0 3 6 10 13 16 20 23 26 30");
            int[] length = {1, 2, 4, 5, 5, 10, 10, 10, 10, 10};
            for (int delay = 1; delay <= 10; delay++) {
                p.x.sets(6, delay);
                p.is("LENGTH by DELAY " + delay, p.x.earliest(1), length[delay - 1]);
                p.row(chainOfSums(delay));
            }
        });
        e.edge("TIMES are PARTS from 0 on", p -> {
            p.loop("b'+1;n+1;b''*1;a''*1");
            p.x.earliest(1);
            p.row("0 0 0 0");
            p.x.earliest(60);
            p.row("0 0 0 0");
        });
        e.edge("the others at the begin of a TICK alone", p -> {
            p.loop("n+1;a*1;A[a];B[a]=1;b+c");
            p.x.earliest(1);
            p.row("0 10 10 10 30");
            p.x.latest(1);
            p.row("6 10 10 30 36");
            p.x.sets(6, 1);
            p.x.earliest(1);
            p.row("0 10 10 10 30");
            p.x.latest(1);
            p.row("9 10 10 30 39");
        });
        e.edge("READY: of a SUM DELAY behind its begin, of a PRODUCT LONG TICKS, of a LOAD REACH TICKS, of a STORE one TICK behind", p -> {
            p.loop("n*1;a+1;A[0];c+1;B[0]=1;e+1;n+1;g+1");
            p.x.earliest(1);
            p.row("0 20 0 20 0 10 0 4");
            p.x.sets(6, 5);
            p.x.sets(7, 1);
            p.x.sets(8, 1);
            p.x.earliest(1);
            p.row("0 10 0 10 0 10 0 5");
            p.x.sets(7, 4);
            p.x.sets(8, 3);
            p.is("LENGTH", p.x.earliest(1), 5);
            p.row("0 40 0 30 0 10 0 5");
            p.x.sets(6, 1);
            p.is("LENGTH", p.x.earliest(1), 5);
            p.row("0 40 0 30 0 10 0 1");
            p.x.sets(7, 2);
            p.x.sets(8, 2);
            p.x.earliest(1);
            p.row("0 20 0 20 0 10 0 1");
        });
    }

    private static void bounds(Edges e) {
        e.edge("an ACT begins not ahead of READY of each ACT whose letter is its OPERAND, less G TICKS for each '", p -> {
            p.loop("c'+1;c''+1;1*1");
            p.x.sets(7, 4);
            String[] rows = {"30 20 0", "20 0 0", "10 0 0", "0 0 0", "0 0 0"};
            for (int g = 1; g <= 5; g++) {
                p.x.earliest(g);
                p.row(rows[g - 1]);
            }
        });
        e.edge("each ACT whose letter is its OPERAND", p -> {
            p.loop("n*1;n+1;b+a;a+b;A[a]=b;B[b]=a;n<9;A[g]");
            p.x.earliest(5);
            p.row("0 0 20 20 20 20 0 30");
        });
        e.edge("of two ACTS at one MEMORY, one a STORE at least", p -> {
            String[] loops = {"A[0];A[1]", "A[0];B[1]=1", "A[0]=1;B[1]=1", "B[0];B[1]", "A[0];A[1]=1", "A[0]=1;A[1]", "B[0]=1;B[1]=1"};
            for (int i = 0; i < loops.length; i++) {
                Probe q = p.fresh(loops[i]);
                q.x.earliest(2);
                q.row(i < 4 ? "0 0" : "0 10");
                q.is(loops[i] + " by 1", q.x.earliest(1) < 0, i >= 4);
            }
        });
        e.edge("begins one TICK behind the begin of the earlier one at the earliest", p -> {
            // As many BOUNDS as there can be: two by OPERANDS of each ACT, and two of each pair.
            p.loop("A[a']=a';A[a]=a;A[a]=b;A[a]=b;A[a]=b;A[a]=b;A[a]=b;A[a]=b;A[a]=b;A[a]=b");
            p.is("by 10", p.x.earliest(10), 10);
            p.row("0 10 20 30 40 50 60 70 80 90");
            p.is("by 9", p.x.earliest(9), -2);
            p.is("GAP", p.x.gap(), 10);
        });
        e.edge("the earlier one one TICK less G TICKS behind the begin of the later one", p -> {
            p.loop("A[0]=1;n*1;A[b]");
            p.x.sets(7, 4);
            p.is("by 1", p.x.earliest(1), -2);
            String[] rows = {"30 0 40", "20 0 40", "10 0 40", "0 0 40", "0 0 40"};
            for (int g = 2; g <= 6; g++) {
                p.is("LENGTH by " + g, p.x.earliest(g), 6);
                p.row(rows[g - 2]);
            }
        });
        e.edge("EARLIEST by G: the least TIMES by which all BOUNDS hold; there are none if one would be 1000 or more", p -> {
            p.loop("a'*1");
            p.x.sets(7, 4);
            p.is("a TICK too few", p.x.earliest(3), -2);
            p.is("just enough", p.x.earliest(4), 4);
            p.row("0");
            Probe far = p.fresh("b'+0;c'*0;d'+0;e'+0;a+f';g'*1;h'*1;i'*1;j'*1;1*1");
            far.x.sets(6, 2);
            far.x.sets(7, 3);
            far.is("the ring is passed once more than there are ACTS", far.x.earliest(1), 11);
            far.row("100 80 86 94 102 80 60 40 20 0");
            far.is("LEAST", far.x.least(), 6);
            far.row("1 4 6 0 0");
            far.x.sets(6, 3);
            far.is("and by a DELAY of 3 for ever", far.x.earliest(1), -2);
            Probe others = p.fresh("b'<0;c'*0;d'-0;e'<0;a<f';g'*1;h'*1;i'*1;j'*1;1*1").with(6, 2).with(7, 3);
            others.is("with other SUMS", others.x.earliest(1), 11);
            others.row("100 80 86 94 102 80 60 40 20 0");
            Probe farther = p.fresh("b'+1;c'+1;d'+d';a+e';1+g';1*1;1+h';f+i';j'+i'';a*c''");
            farther.x.sets(7, 4);
            farther.is("three rings", farther.x.earliest(1), 6);
            farther.row("14 20 24 30 34 0 40 44 50 20");
            Probe less = p.fresh("b'<1;c'<1;d'<d';a<e';1<g';1*1;1<h';f<i';j'<i'';a*c''").with(7, 4);
            less.is("three rings of <", less.x.earliest(1), 6);
            less.row("14 20 24 30 34 0 40 44 50 20");
            Probe slow = p.fresh("c'+1;a+1;b+1");
            slow.is("4 PARTS each TICK are too many", slow.x.earliest(1), -2);
            slow.is("12 PARTS in 2 TICKS", slow.x.earliest(2), 2);
        });
        e.edge("RINGS: the least G (1 on) by which there are EARLIEST (0 without ACTS)", p -> {
            p.x.least();
            p.row("0 0 0 0 0");
            p.loop("1+1");
            p.x.least();
            p.row("1 1 0 0 0");
            p.loop("j'*1;a*1;b*1;c*1;d*1;e*1;f*1;g*1;h*1;i*1");
            p.x.sets(7, 4);
            p.is("the longest ring", p.x.least(), 40);
            p.row("40 0 10 0 0");
            p.is("a TICK fewer", p.x.earliest(39), -2);
            p.is("GAP", p.x.gap(), 40);
        });
    }

    private static void needs(Edges e) {
        e.edge("each rounded up", p -> {
            p.loop("n+1;n+2;n+3;n+4;n+5;n*1;n*2;n*3;n*4");
            int[] sums = {5, 3, 2, 2};
            int[] products = {4, 2, 2};
            for (int i = 1; i <= 4; i++) {
                p.x.sets(0, i);
                p.x.sets(1, Math.min(i, 3));
                p.x.least();
                p.row("1 " + sums[i - 1] + " " + products[Math.min(i, 3) - 1] + " 0 0");
            }
            Probe q = p.fresh("A[0];A[1];A[2];A[3];A[4];B[0];B[1];B[2];B[3]");
            int[] ofA = {5, 3, 2};
            int[] ofB = {4, 2, 1};
            for (int i = 0; i < 3; i++) {
                q.x.sets(2, 1 << i);
                q.x.sets(3, 1 << i);
                q.x.least();
                q.row("1 0 0 " + ofA[i] + " " + ofB[i]);
            }
        });
        e.edge("of each MEMORY its LOADS and STORES by its BANKS", p -> {
            p.loop("A[0];A[1]=1;B[0]=1;B[1];B[2]");
            p.x.least();
            p.row("2 0 0 2 3");
        });
        e.edge("LEAST: the greatest of RINGS and NEEDS", p -> {
            String[] loops = {"a'*1;n+1", "n+1;n+2;n+3", "n*1;n*2;n*3", "A[0];A[1];A[2]", "B[0];B[1];B[2]"};
            int[] least = {2, 3, 3, 3, 3};
            for (int i = 0; i < loops.length; i++) {
                p.is(loops[i], p.fresh(loops[i]).x.least(), least[i]);
            }
        });
        e.edge("LENGTH by G: the greatest READY by EARLIEST, in TICKS, rounded up", p -> {
            p.loop("n+1;a+1");
            p.is("8 PARTS", p.x.earliest(1), 1);
            p.x.sets(6, 5);
            p.is("10 PARTS", p.x.earliest(1), 1);
            p.x.sets(6, 6);
            p.is("16 PARTS", p.x.earliest(1), 2);
            p.x.sets(6, 10);
            p.is("20 PARTS", p.x.earliest(1), 2);
            Probe least = p.fresh("n+1").with(6, 1);
            least.is("1 PART", least.x.earliest(1), 1);
            Probe late = p.fresh("n*1;a+1;n+1").with(6, 1);
            late.is("21 PARTS, and not of the last ACT", late.x.earliest(1), 3);
            late.row("0 20 0");
        });
        e.edge("LATEST by G: the greatest TIMES by which all BOUNDS hold and READY of each is not behind LENGTH TICKS", p -> {
            p.loop("n+1;a+1;n*1;A[n];B[n]=1");
            p.x.latest(1);
            p.row("12 16 0 0 10");
            p.x.sets(6, 10);
            p.x.latest(1);
            p.row("0 10 0 0 10");
            p.x.sets(6, 3);
            p.x.latest(1);
            p.row("14 17 0 0 10");
            Probe chain = p.fresh(SUMS);
            chain.x.latest(1);
            chain.row("2 6 12 16 22 26 32 36 42 46");
            chain.x.sets(6, 3);
            chain.x.latest(1);
            chain.row("7 11 14 17 21 24 27 31 34 37");
            chain.x.sets(6, 6);
            chain.x.latest(1);
            chain.row("4 14 24 34 44 54 64 74 84 94");
            chain.x.sets(6, 1);
            chain.x.latest(1);
            chain.row("0 1 2 3 4 5 6 7 8 9");
            Probe least = p.fresh("n+1;a+1;n+2").with(6, 1);
            least.x.latest(1);
            least.row("8 9 9");
            Probe longest = p.fresh("n*1;a*1;b*1;c*1;d*1;e*1;f*1;g*1;h*1;i*1").with(7, 4);
            longest.is("all as in EARLIEST", longest.x.latest(1), 10);
            longest.row("0 40 80 120 160 200 240 280 320 360");
            // TIMES that sink as many as 19 times, if they do so one behind the other.
            Probe far = p.fresh("1+j';a+g'';1*b;a*1;d+a;c+e;f+a;g+g';h+h;i+h'").with(6, 2).with(7, 4);
            far.x.latest(6);
            far.row("6 8 10 10 54 56 58 60 62 64");
            Probe ring = p.fresh("A[0]=1;n*1;A[b]");
            ring.x.latest(2);
            ring.row("10 0 20");
            ring.x.latest(3);
            ring.row("10 0 20");
        });
    }

    private static void addresses(Edges e) {
        e.edge("if the OPERAND in [ ] is a digit: it, always", p -> {
            p.loop("A[0];B[9]=1");
            p.is("0", p.x.address(0), 1);
            p.row("0");
            p.is("9", p.x.address(1), 1);
            p.row("9");
        });
        e.edge("if it is n, or the letter (without ') of an ACT n+digit, digit+n or n-digit: ROUND and so much", p -> {
            p.loop("n+0;9+n;n-9;A[n];A[a];A[b];A[c]=a");
            String[] starts = {"0", "0", "9", "-9"};
            for (int i = 0; i < 4; i++) {
                p.is("known", p.x.address(3 + i), 2);
                p.row(starts[i]);
            }
        });
        e.edge("else not known", p -> {
            String[] acts = {"9-n", "n<9", "n*1", "1+2", "n+n", "n-n", "A[n]", "A[1]=n", "A[n]=1", "n+a'", "1-2", "a'+1", "9<n"};
            for (String act : acts) {
                Probe q = p.fresh(act + ";B[a]");
                q.is("by " + act, q.x.address(1), 0);
                q.row("");
            }
            Probe marks = p.fresh("n+1;A[a'];A[a'']");
            marks.is("by a'", marks.x.address(1), 0);
            marks.is("by a''", marks.x.address(2), 0);
        });
    }

    private static void plans(Edges e) {
        e.edge("ACTS in the order of LATEST", p -> {
            p.loop("n*1;n*2;b*3");
            p.is("plan(3)", p.x.plan(3), 1);
            p.row("1 0 2");
            Probe ahead = p.fresh("n*1;n*2;n*3;c*1");
            ahead.x.latest(4);
            ahead.row("20 20 0 20");
            ahead.is("plan(4)", ahead.x.plan(4), 1);
            ahead.row("1 2 0 3");
            Probe part = p.fresh("n+1;n+2;b+3").with(6, 1);
            part.is("LATEST that are a PART from another", part.x.latest(3), 0);
            part.row("9 8 9");
            part.is("plan(3)", part.x.plan(3), 1);
            part.row("1 0 2");
        });
        e.edge("(of equal ones of their letters)", p -> {
            p.loop("n*1;n*2;n*3");
            p.is("plan(3)", p.x.plan(3), 1);
            p.row("0 1 2");
        });
        e.edge("to the first TIME that it may begin at, by EARLIEST and by BOUNDS from those that were put, at which it has ROOM", p -> {
            p.loop("n*1;n*2;b+1");
            p.is("c waits for b, which waited for ROOM", p.x.plan(2), 1);
            p.row("1 0 2");
            Probe q = p.fresh("n*1;n*2;a+b");
            q.is("plan(2)", q.x.plan(2), 1);
            q.row("0 1 3");
            Probe back = p.fresh("n*1;n*2;b'+a'");
            back.is("by 2, less 2 TICKS", back.x.plan(2), 1);
            back.row("0 1 1");
            p.is("TIME", back.x.begins(2), 10);
            Probe fourth = p.fresh("n*1;n*2;n+1;b'+a'").with(0, 2);
            fourth.is("by 2", fourth.x.plan(2), 1);
            fourth.row("0 1 0 1");
            Probe first = p.fresh("c'+b';n*1;n*2");
            first.is("by 2", first.x.plan(2), 1);
            first.row("1 0 1");
            Probe part = p.fresh("n*1;n*2;a+b").with(6, 1);
            part.is("by 2", part.x.gap(), 2);
            part.is("not a PART ahead of READY", part.x.begins(2), 30);
            Probe both = p.fresh("n+1;n+2;a+b'").with(0, 3);
            both.is("by 1", both.x.gap(), 1);
            both.is("by a; b' is READY long ago", both.x.begins(2), 4);
            Probe late = p.fresh("n*1;a*1;b*1;c*1;c*2").with(7, 3);
            late.is("by 20", late.x.plan(20), 1);
            late.row("0 3 6 9 10");
        });
        e.edge("of the TICKS from the one where that begins on, G are looked at", p -> {
            p.loop("n*1;n*2;a*b");
            p.is("the last of 3", p.x.plan(3), 1);
            p.row("0 1 5");
            p.is("none of 2", p.x.plan(2), 0);
            Probe one = p.fresh("n*1;a*1");
            one.is("none of 1", one.x.plan(1), 0);
            Probe full = p.fresh("n+1;n+2;n+3;n+4;n+5;n+6;n+7;n+8;n+9;n+0");
            full.is("the last of 10", full.x.plan(10), 1);
            full.row("0 1 2 3 4 5 6 7 8 9");
            full.is("none of 9", full.x.plan(9), 0);
        });
        e.edge("(a SUM in each TICK at the first TIME that it may; the others at its begin)", p -> {
            p.loop("n+1;a+1");
            p.is("GAP", p.x.gap(), 2);
            p.is("b, in the TICK behind", p.x.begins(1), 10);
            p.x.sets(0, 2);
            p.is("b, in the same TICK", p.x.begins(1), 4);
            Probe q = p.fresh("n*1;n*2;n*3");
            q.is("GAP", q.x.gap(), 3);
            q.is("c", q.x.begins(2), 20);
        });
        e.edge("or one that was put would then begin too early by a BOUND, there is no PLAN by G", p -> {
            p.loop("n*b';n*n");
            p.is("b in TICK 1 is too late for a in TICK 0", p.x.plan(2), 0);
            p.is("by 3 it is not", p.x.plan(3), 1);
            p.row("0 1");
            p.x.sets(1, 2);
            p.is("nor if it need not wait", p.x.plan(2), 1);
            p.row("0 0");
            // By 2 TICK 1 has no ROOM for e, and in TICK 2 it is READY one PART too late for b of the ROUND behind.
            Probe part = p.fresh("n*1;e'+1;a+1;a+2;a+3;c*d").with(0, 2).with(1, 2).with(6, 1).with(7, 1);
            part.is("by a PART", part.x.plan(2), 0);
            part.is("GAP", part.x.gap(), 3);
            part.row("0 0 1 1 2 2");
        });
    }

    /** GAP of LOADS of n (b) and n+d (c), the second in the TICK behind; or of two that are d - 1 apart, in one TICK. */
    private static int gapOfRounds(int way, int banks, int d) {
        for (int r = 0; r < 16; r++) {
            if (bank(way, banks, (r + d) % 16) == bank(way, banks, (r + 1) % 16)) {
                return 2;
            }
        }
        return 1;
    }

    private static void room(Edges e) {
        e.edge("ROOM in a TICK, modulo G: of SUMS (PRODUCTS) fewer than ADDERS (MULTIPLIERS) were put there", p -> {
            p.loop("n*1;a*2;b+1;n+2");
            p.is("GAP", p.x.gap(), 2);
            p.row("0 3 5 0");
            p.x.sets(1, 2);
            p.is("two of each TICK", p.x.plan(1), 0);
            p.x.sets(0, 2);
            p.is("two of each TICK", p.x.plan(1), 1);
            p.row("0 2 4 0");
            p.x.sets(1, 3);
            p.is("and three", p.x.plan(1), 1);
        });
        e.edge("of a LOAD or STORE no other of its MEMORY was put there, whose BANK, at some time, is the same", p -> {
            p.is("two MEMORIES", p.fresh("A[0];B[0]").x.gap(), 1);
            p.is("one BANK", p.fresh("A[0];A[1]").x.gap(), 2);
            Probe q = p.fresh("A[0];A[1];A[2];A[3]");
            q.x.sets(2, 4);
            q.is("four BANKS", q.x.gap(), 1);
            q.x.sets(2, 2);
            q.is("two BANKS", q.x.gap(), 2);
            q.row("0 0 1 1");
        });
        e.edge("both ADDRESSES are known", p -> {
            for (String act : new String[] {"A[b];A[1]", "A[2];A[b]", "A[a'];A[3]", "A[1];A[a'']", "A[b];A[b]", "A[b];A[n]", "A[a];A[b]"}) {
                Probe q = p.fresh("n+1;n*0;" + act);
                q.x.sets(2, 4);
                q.is(act, q.x.gap(), 2);
            }
        });
        e.edge("for all R 0 .. 15 the BANK of its CELL in ROUND R is not that of the other one's in ROUND R + K", p -> {
            for (int code = 0; code < 60; code++) {
                int banks = 1 << code % 3;
                int way = code / 3 % 2;
                int d = code / 6;
                Probe q = p.fresh("n+" + d + ";A[n];A[a]");
                q.x.sets(2, banks);
                q.x.sets(4, way);
                q.is("GAP of n+" + d + ", BANKS " + banks + ", WAY " + way, q.x.gap(), gapOfRounds(way, banks, d));
            }
            for (int code = 0; code < 600; code++) {
                int banks = 1 << code % 3;
                int way = code / 3 % 2;
                int more = code / 6 % 10;
                int less = code / 60;
                Probe q = p.fresh("n+" + more + ";n-" + less + ";B[a];B[b]").with(0, 2);
                q.x.sets(3, banks);
                q.x.sets(5, way);
                q.is("GAP of n+" + more + ", n-" + less + ", BANKS " + banks + ", WAY " + way, q.x.gap(), gapOfRounds(way, banks, more + less + 1));
            }
            Probe any = p.fresh("A[n];A[0]");
            any.x.sets(2, 4);
            any.x.sets(4, 1);
            any.is("n comes to CELLS 0 .. 3 in some ROUND", any.x.gap(), 2);
            Probe last = p.fresh("n-1;A[a];A[9]");
            last.x.sets(2, 2);
            last.x.sets(4, 1);
            last.is("and to the last ones", last.x.gap(), 2);
        });
        e.edge("with K the TICK of this one less the TICK of the other one, by G", p -> {
            // b is put first, to TICK 1, then c, to TICK 0: K is -1.
            int[] gaps = {1, 2, 1, 1};
            for (int d = 0; d < 4; d++) {
                Probe q = p.fresh("n+" + d + ";A[a];A[n];b*1");
                q.x.sets(2, 4);
                q.is("n+" + d, q.x.gap(), gaps[d]);
            }
            // By a GAP of 2 d comes two TICKS behind c, and K is 1: it waits a TICK where n+d is n of the ROUND behind.
            for (int d = 0; d < 4; d++) {
                Probe q = p.fresh("n+5;n+" + d + ";A[n];A[b];a*1");
                q.x.sets(2, 4);
                q.x.sets(7, 4);
                q.is("GAP of n+" + d, q.x.gap(), 2);
                q.row("0 1 0 " + (d == 1 ? 3 : 2) + " 1");
            }
            // The same with c put behind d, to a TICK ahead of it: K is -1.
            for (int d = 0; d < 4; d++) {
                Probe q = p.fresh("n+5;n+" + d + ";A[n];A[b];a*1;d*1;e*1");
                q.x.sets(1, 3);
                q.x.sets(2, 4);
                q.x.sets(7, 4);
                q.is("GAP of n+" + d, q.x.gap(), 2);
                q.row("0 1 " + (d == 1 ? 1 : 0) + " 2 1 4 5");
            }
        });
    }

    private static void gaps(Edges e) {
        e.edge("GAP: the least G, from LEAST on, by which there is a PLAN", p -> {
            p.loop("n*b';n*n");
            p.is("LEAST", p.x.least(), 2);
            p.is("GAP", p.x.gap(), 3);
            p.x.sets(1, 2);
            p.is("LEAST", p.x.least(), 1);
            p.is("GAP as LEAST", p.fresh("n+1;n+2").x.gap(), 2);
        });
        e.edge("(without ACTS GAP is 0)", p -> {
            p.is("at first", p.x.gap(), 0);
            p.row("");
            p.loop("n+1");
            p.is("GAP", p.x.gap(), 1);
            p.loop("");
            p.is("again", p.x.gap(), 0);
            p.row("");
        });
    }

    private static void rows(Edges e) {
        e.edge("Sets are bits (of ACTS: a is 1, b is 2, ..)", p -> {
            p.loop("j'+1;a+1;1+1;1+1;1+1;1+1;1+1;1+1;1+1;b+1");
            p.is("a, b, j", p.x.knots(), 1 + 2 + 512);
        });
        e.edge("Questions change nothing", EdgesOfTermsTest::questions);
        e.edge("Refused calls answer NONE, or false, and change nothing but THE TEXT, which a call that reads it empties", p -> {
            prepare(p);
            p.refusesText("1+1;", p.x::loop, -5);
            p.refusesText("z", p.x::loop, -1);
            p.refusesText("c'+1", p.x::loop, -200);
            p.refusesText("1,", () -> p.x.memory(0), -3);
            p.refusesText("1", () -> p.x.memory(2), -1);
            p.refusesText("u0", p.x::day, -3);
        });
        e.edge("the ROW stays with each answer that tells of a refusal or that there is none", EdgesOfTermsTest::refusals);
        e.edge("and with calls that do not tell of it", EdgesOfTermsTest::silent);
        e.edge("NONE comes ahead of other answers below 0", p -> {
            p.is("no such kind, n below 0", p.x.sheet(4, -1, 0, 0), -1);
            p.is("a missing one of 17", p.x.sheet(3, 17, 0, 0), -1);
            p.loop("a'*1");
            p.is("another G", p.x.earliest(0), -1);
            p.is("another G", p.x.latest(0), -1);
            p.is("another G", p.x.cheapest(0), -1);
            p.is("no such CELL", p.x.writes(2, 16, 0), -1);
        });
    }

    /** A ring, with MEMORIES, a ROW of three numbers, signs in THE TEXT, and something to be undone. */
    private static void prepare(Probe p) {
        p.loop("A[n];a*b'");
        p.memory(0, "4,5,6");
        p.x.sets(0, 2);
        p.x.undo();
        p.x.machine(2);
        p.row("5 0 15");
    }

    private static void questions(Probe p) {
        prepare(p);
        p.tell("ab");
        p.asks("cell", () -> p.x.cell(0, 1));
        p.asks("act", () -> p.x.act(1, 2));
        p.asks("least", p.x::least);
        p.asks("earliest", () -> p.x.earliest(2));
        p.asks("latest", () -> p.x.latest(2));
        p.asks("knots", p.x::knots);
        p.asks("address", () -> p.x.address(0));
        p.asks("gap", p.x::gap);
        p.asks("begins", () -> p.x.begins(1));
        p.asks("why", p.x::why);
        p.asks("plan", () -> p.x.plan(9));
        p.asks("length", p.x::length);
        p.asks("state", () -> p.x.state(0));
        p.asks("tick", () -> p.x.tick(3, 3));
        p.asks("registers", p.x::registers);
        p.asks("binds", () -> p.x.binds(1));
        p.asks("shares", () -> p.x.shares(0));
        p.asks("plays", () -> p.x.plays(4));
        p.asks("machine", () -> p.x.machine(4));
        p.asks("saves", () -> p.x.saves(4));
        p.asks("cheapest", () -> p.x.cheapest(4));
        for (int what = 0; what < 9; what++) {
            int other = what == 4 || what == 5 ? 1 : what > 5 ? 3 : 2;
            int which = what;
            p.asks("would", () -> p.x.would(which, other));
        }
        p.asks("keep", () -> Probe.bit(p.x.keep(0)));
        p.asks("count", () -> p.x.count(3));
        p.asks("row", () -> p.x.row(0));
        p.is("GAP is as it was", p.x.gap(), 2);
    }

    private static void refusals(Probe p) {
        prepare(p);
        p.keepsAll("runs(41)", () -> p.x.runs(41), -1);
        p.keepsAll("undo(), twice, and once more", () -> p.fresh().x.undo(), -1);
        p.keepsAll("earliest(0)", () -> p.x.earliest(0), -1);
        p.keepsAll("earliest(1)", () -> p.x.earliest(1), -2);
        p.keepsAll("latest(61)", () -> p.x.latest(61), -1);
        p.keepsAll("latest(1)", () -> p.x.latest(1), -2);
        p.keepsAll("address(2)", () -> p.x.address(2), -1);
        p.keepsAll("plan(0)", () -> p.x.plan(0), -1);
        p.keepsAll("plan(1)", () -> p.x.plan(1), 0);
        p.keepsAll("state(2)", () -> p.x.state(2), -1);
        p.keepsAll("tick(-1, 1)", () -> p.x.tick(-1, 1), -1);
        p.keepsAll("tick(0, 41)", () -> p.x.tick(0, 41), -1);
        p.keepsAll("binds(2)", () -> p.x.binds(2), -1);
        p.keepsAll("shares(2)", () -> p.x.shares(2), -1);
        p.keepsAll("plays(41)", () -> p.x.plays(41), -1);
        p.keepsAll("machine(41)", () -> p.x.machine(41), -1);
        p.keepsAll("cheapest(61)", () -> p.x.cheapest(61), -1);
        p.keepsAll("cheapest(1)", () -> p.x.cheapest(1), -2);
        p.keepsAll("would(0, 5)", () -> p.x.would(0, 5), -1);
        p.keepsAll("would(0, 1)", () -> p.x.would(0, 1), -2);
        p.keepsAll("years(1, 0)", () -> p.x.years(1, 0), -1);
        p.keepsAll("years(1, 21)", () -> p.x.years(1, 21), -1);
    }

    private static void silent(Probe p) {
        prepare(p);
        List<String> rows = new ArrayList<>();
        p.x.sign(0x31310000);
        rows.add(p.row());
        p.x.end(2);
        rows.add(p.row());
        p.x.memory(1);
        rows.add(p.row());
        p.loop("n*1;a*a;n+n");
        rows.add(p.row());
        p.x.cell(0, 0);
        p.x.act(0, 0);
        p.x.sheet(2, 3, 1, 1);
        p.x.sets(0, 3);
        p.x.writes(0, 0, 9);
        rows.add(p.row());
        p.x.undo();
        p.x.begins(1);
        p.x.state(0);
        p.x.saves(5);
        rows.add(p.row());
        p.x.keep(0);
        p.x.again(0);
        p.x.count(0);
        rows.add(p.row());
        p.same("ROWS", rows.toString(), Collections.nCopies(7, "5 0 15").toString());
    }

    public static void main(String[] args) {
        all().end(0, 0);
    }
}
