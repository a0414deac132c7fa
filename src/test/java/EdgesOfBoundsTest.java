/** Boundary cases of promises 14 to 18: least, earliest, latest, knots, address. */
public final class EdgesOfBoundsTest {
    private static final String RING = "A[n];a*3;b+1;A[n]=c";
    private static final int[] NO_GAPS = {0, 61, -1, Probe.MIN, Probe.MAX};

    static Edges all() {
        Edges e = new Edges();
        least(e);
        earliest(e);
        latest(e);
        knots(e);
        address(e);
        return e;
    }

    private static void least(Edges e) {
        e.promise(14);
        e.edge("LEAST: it (0 without ACTS)", p -> {
            p.is("at first", p.x.least(), 0);
            p.row("0 0 0 0 0");
            p.loop("1+1");
            p.is("one ACT", p.x.least(), 1);
            p.loop("");
            p.is("none again", p.x.least(), 0);
            p.row("0 0 0 0 0");
        });
        e.edge("the ROW: RINGS, NEEDS of SUMS, PRODUCTS, A, B", p -> {
            p.loop("n+1;n+2;n+3;n+4;n+5;n*1;A[0];A[1];B[0];B[1]");
            p.is("LEAST", p.x.least(), 5);
            p.row("1 5 1 2 2");
            p.x.sets(0, 4);
            p.x.sets(2, 2);
            p.is("LEAST", p.x.least(), 2);
            p.row("1 2 1 1 2");
            p.loop("n*1;n*2;n*3;n*4;n*5;n*6;n*7;n*8;n*9;n*0");
            p.is("ten", p.x.least(), 10);
            p.row("1 0 10 0 0");
            p.x.sets(1, 3);
            p.is("by three", p.x.least(), 4);
            p.row("1 0 4 0 0");
        });
        e.edge("RINGS", p -> {
            String[] loops = {RING, "a'*1", "a''*1", "b'+1;a*1", "b'+1;a'*1", "A[0]=1;A[1]", "A[0]=1;B[1]", "a'+1"};
            int[] rings = {6, 2, 1, 3, 2, 2, 1, 1};
            for (int i = 0; i < loops.length; i++) {
                Probe q = p.fresh(loops[i]);
                q.x.least();
                q.is(loops[i], q.x.row(0), rings[i]);
            }
        });
    }

    /** What is asked by one G is the same whether it was asked by the next one ahead of it or not. */
    private static void side(Probe q, Probe r, int g) {
        q.is("by " + g, q.x.earliest(g) > 0, true);
        String row = q.row();
        r.x.earliest(g + 1);
        String next = r.row();
        r.x.earliest(g);
        r.row(row);
        r.x.earliest(g + 1);
        r.row(next);
        q.x.earliest(g + 1);
        q.row(next);
        q.x.earliest(g);
        q.row(row);
    }

    private static void earliest(Edges e) {
        e.promise(15);
        e.edge("EARLIEST by G (1 .. 60): LENGTH; the ROW: TIMES of ACTS", p -> {
            p.is("without ACTS", p.x.earliest(1), 0);
            p.row("");
            p.loop("b'*1;n*1");
            p.is("by 1", p.x.earliest(1), 3);
            p.row("10 0");
            p.is("by 2", p.x.earliest(2), 2);
            p.row("0 0");
            p.is("by 60", p.x.earliest(60), 2);
            p.row("0 0");
        });
        e.edge("EARLIEST by G (1 .. 60)", p -> {
            String far = "b'+0;c'*0;d'+0;e'+0;a+f';g'*1;h'*1;i'*1;j'*1;1*1";
            String farther = "b'+1;c'+1;d'+d';a+e';1+g';1*1;1+h';f+i';j'+i'';a*c''";
            for (int g = 1; g < 60; g++) {
                side(p.fresh(far).with(6, 2).with(7, 3), p.fresh(far).with(6, 2).with(7, 3), g);
                side(p.fresh(farther).with(7, 4), p.fresh(farther).with(7, 4), g);
            }
        });
        e.edge("-2: there are none", p -> {
            p.loop(RING);
            p.x.knots();
            for (int g = 1; g <= 5; g++) {
                int by = g;
                p.keepsAll("by " + g, () -> p.x.earliest(by), -2);
            }
            p.is("by 6", p.x.earliest(6), 6);
            p.row("0 20 40 50");
        });
        e.edge("NONE: another G", p -> {
            p.loop(RING);
            p.x.knots();
            for (int g : NO_GAPS) {
                p.keepsAll("earliest(" + g + ")", () -> p.x.earliest(g), -1);
                p.is("without ACTS", p.fresh().x.earliest(g), -1);
            }
        });
    }

    private static void latest(Edges e) {
        e.promise(16);
        e.edge("LATEST by G (1 .. 60): how many ACTS are there as in EARLIEST; the ROW: TIMES of ACTS", p -> {
            p.is("without ACTS", p.x.latest(1), 0);
            p.row("");
            p.loop("n*1;a*2;n+1");
            p.is("all but one", p.x.latest(60), 2);
            p.row("0 20 36");
            p.loop("n*1;a*2");
            p.is("all", p.x.latest(1), 2);
            p.row("0 20");
            p.loop("n+1;n+2");
            p.is("none", p.x.latest(1), 0);
            p.row("6 6");
            p.loop("b'*1;n*1");
            p.is("by 1", p.x.latest(1), 2);
            p.row("10 0");
        });
        e.edge("-2: there are no EARLIEST", p -> {
            p.loop(RING);
            p.x.knots();
            for (int g = 1; g <= 5; g++) {
                int by = g;
                p.keepsAll("by " + g, () -> p.x.latest(by), -2);
            }
            p.is("by 6", p.x.latest(6), 3);
            p.row("0 20 46 50");
        });
        e.edge("NONE: another G", p -> {
            p.loop(RING);
            p.x.knots();
            for (int g : NO_GAPS) {
                p.keepsAll("latest(" + g + ")", () -> p.x.latest(g), -1);
                p.is("without ACTS", p.fresh().x.latest(g), -1);
            }
        });
    }

    private static void knots(Edges e) {
        e.promise(17);
        e.edge("from which one comes back to them by going from an ACT to one that has a BOUND by it, on and on (bits): they; the ROW: how many", p -> {
            String[] loops = {"", "1+1", "a'+1", "a''*1", "n+1;a+1", "b'+1;a+1", "b''+1;1+1", "a'+1;a+1;b+c'", "A[0];A[1]", "A[0];A[1]=1",
                "A[0]=1;B[1]=1", "A[0];B[1]=1;A[2];B[3];A[b]=c", "A[0]=1", "n+1;c'+1;b+a;c+1",
                "j'+1;a+1;b+1;c+1;d+1;e+1;f+1;g+1;h+1;i+1", "b'+1;c'+1;d'+1;e'+1;f'+1;g'+1;h'+1;i'+1;j'+1;a+1"};
            int[] knots = {0, 0, 1, 1, 0, 3, 0, 5, 0, 3, 0, 31, 0, 6, 1023, 1023};
            for (int i = 0; i < loops.length; i++) {
                p.x.least();
                p.loop(loops[i]);
                p.is(loops[i], p.x.knots(), knots[i]);
                p.row(Integer.toString(Integer.bitCount(knots[i])));
            }
        });
    }

    private static void address(Edges e) {
        e.promise(18);
        e.edge("0: not known, or no LOAD or STORE; 1: the same always; 2: by ROUND", p -> {
            p.loop("n+1;n*1;A[a];A[b];A[1];B[a]=1;B[b]=1;B[n]=1;n-1;B[a'']");
            int[] due = {0, 0, 2, 0, 1, 2, 0, 2, 0, 0};
            for (int k = 0; k < 10; k++) {
                p.is("address(" + k + ")", p.x.address(k), due[k]);
            }
        });
        e.edge("the ROW: what it is in ROUND 0 (below 0, too; nothing if 0)", p -> {
            p.loop("n-9;A[a];A[n];B[0];n*1;A[e]");
            p.x.address(1);
            p.row("-9");
            p.x.address(4);
            p.row("");
            p.x.address(2);
            p.row("0");
            p.x.address(5);
            p.row("");
            p.x.address(3);
            p.row("0");
            p.x.address(0);
            p.row("");
        });
        e.edge("NONE: no such ACT", p -> {
            p.is("without ACTS", p.x.address(0), -1);
            p.loop("A[7];A[8]");
            p.x.address(1);
            for (int k : new int[] {-1, 2, 10, Probe.MIN, Probe.MAX}) {
                p.keepsAll("address(" + k + ")", () -> p.x.address(k), -1);
            }
            p.row("8");
        });
    }

    public static void main(String[] args) {
        all().end(14, 18);
    }
}
