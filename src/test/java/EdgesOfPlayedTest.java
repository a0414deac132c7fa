/** Boundary cases of promises 29 to 31: plays, machine, saves. */
public final class EdgesOfPlayedTest {
    private static final String STREAM = "A[n];a*3;b+1;B[n]=c";
    private static final int[] NO_ROUNDS = {-1, 41, Probe.MIN, Probe.MAX};

    static Edges all() {
        Edges e = new Edges();
        plays(e);
        machine(e);
        machineAsPlayed(e);
        machineInTick(e);
        saves(e);
        return e;
    }

    private static void plays(Edges e) {
        e.promise(29);
        e.edge("n ROUNDS (0 .. 40) are played as told, and forgotten", p -> {
            p.loop("A[n];a+1;A[n]=b;B[0]=n");
            p.x.writes(0, 15, 9);
            String before = p.held();
            p.is("40: 40 and 9, and 39 in B", p.x.plays(40), 40 + 9 + 39);
            p.row("2 3 3 39");
            p.same("all", p.held(), before);
            p.is("nothing can be undone of it", p.x.count(14), 2);
            p.is("once more", p.x.plays(40), 40 + 9 + 39);
            p.is("1", p.x.plays(1), 1 + 9);
            p.row("0 1 1 0");
        });
        e.edge("the sum of all CELLS of A and B then, as an int", p -> {
            p.x.writes(0, 0, Probe.MAX);
            p.x.writes(0, 15, 1);
            p.is("it wraps", p.x.plays(0), Probe.MIN);
            p.x.writes(1, 15, Probe.MAX);
            p.is("A and B", p.x.plays(0), -1);
            p.x.writes(1, 0, -5);
            p.is("below 0", p.x.plays(40), -6);
        });
        e.edge("the ROW: VALUES of ACTS in the last one (0 with no ROUND)", p -> {
            p.x.least();
            p.is("without ACTS", p.x.plays(40), 0);
            p.row("");
            p.loop("n+5;a'*a''");
            p.x.plays(40);
            p.row("44 1806");
            p.x.plays(0);
            p.row("0 0");
            p.x.plays(2);
            p.row("6 0");
        });
        e.edge("NONE: another n", p -> {
            p.loop("A[n]=1");
            p.x.least();
            for (int n : NO_ROUNDS) {
                p.keepsAll("plays(" + n + ")", () -> p.x.plays(n), -1);
            }
        });
    }

    private static void machine(Edges e) {
        e.promise(30);
        e.edge("how many TICKS it takes till all is READY (0 without ACTS or ROUNDS)", p -> {
            p.is("without ACTS", p.x.machine(40), 0);
            p.is("without both", p.x.machine(0), 0);
            p.loop(STREAM);
            p.is("without ROUNDS", p.x.machine(0), 0);
            p.is("1", p.x.machine(1), 6);
            p.is("2", p.x.machine(2), 7);
            p.is("40", p.x.machine(40), 45);
            p.loop("n+1;n+2;n+3");
            p.is("1, of 3 TICKS", p.x.machine(1), 3);
            p.is("40, each 3 TICKS behind", p.x.machine(40), 120);
        });
        e.edge("the ROW: VALUES of ACTS in the last one (0 with no ROUND), the sum of all CELLS of A and B then, as an int", p -> {
            p.x.writes(0, 1, Probe.MAX);
            p.x.writes(1, 2, Probe.MAX);
            p.x.machine(7);
            p.row("-2");
            p.loop("n+5;A[a]=n");
            p.x.machine(0);
            p.row("0 0 -2");
            p.x.machine(1);
            p.row("5 0 -2");
            p.x.machine(3);
            p.row("7 2 1");
        });
        e.edge("LOADS take what their CELL holds at the begin of their TICK, STORES write at its end", p -> {
            p.loop("A[0];A[0]=n;A[0];B[1]=c;B[1]");
            p.x.writes(0, 0, 70);
            p.is("TICKS of one ROUND", p.x.machine(1), 7);
            p.row("70 0 0 0 0 0");
            p.x.gap();
            p.row("0 1 2 4 5");
            p.is("GAP", p.x.gap(), 3);
            p.x.machine(5);
            p.row("3 4 4 4 4 8");
        });
        e.edge("(It is forgotten.)", p -> {
            p.loop("A[n];a+1;A[n]=b");
            String before = p.held();
            p.x.machine(40);
            p.row("2 3 3 40");
            p.same("all", p.held(), before);
            p.is("nothing can be undone of it", p.x.count(14), 1);
            p.x.machine(1);
            p.row("0 1 1 1");
        });
        e.edge("NONE: another n", p -> {
            p.loop("A[n]=1");
            p.x.least();
            for (int n : NO_ROUNDS) {
                p.keepsAll("machine(" + n + ")", () -> p.x.machine(n), -1);
            }
        });
    }

    private static Probe withMemories(Probe p) {
        p.memory(0, "3,1,4,1,5,9,2,6");
        p.memory(1, "-2,7,1,8");
        p.x.sets(0, 2);
        p.x.sets(1, 2);
        p.x.sets(2, 4);
        p.x.sets(8, 1);
        return p;
    }

    /** BOUNDS hold in THE PLAN, so that the machine comes to what is told. */
    private static void machineAsPlayed(Edges e) {
        String[] loops = {STREAM, "A[n];a*3;b+1;A[n]=c", "A[n];n+1;A[b]=a;a*a'", "b'+n;a'*3;n-a;A[c]=b;A[b];e+d''", "A[0];a+1;A[0]=b;A[0];d<5",
            "n*n;a+b';b+b'';B[c];B[a]=d;d'+e", "n+1;a+1;b+1;c'+b;d+d'", "c'+n;A[n];b+1", "b'*1;n*3", "j'+1;a*2;b<a;A[c]=a;A[d];e-c';f*f'';B[g]=h';B[f];h+i"};
        e.edge("each ROUND GAP TICKS behind the one ahead", p -> {
            for (String loop : loops) {
                for (int n = 0; n <= 40; n += 5) {
                    Probe told = withMemories(p.fresh(loop));
                    Probe made = withMemories(p.fresh(loop));
                    int sum = told.x.plays(n);
                    made.is("TICKS of " + loop, made.x.machine(n), n == 0 ? 0 : (n - 1) * told.x.gap() + told.x.length());
                    told.x.plays(n);
                    made.row(told.row() + " " + sum);
                }
            }
        });
    }

    private static void comesToWhatIsTold(Probe made, String loop) {
        Probe told = made.fresh(loop);
        for (int n = 0; n <= 40; n++) {
            int sum = told.x.plays(n);
            made.x.machine(n);
            made.row(told.row() + " " + sum);
        }
    }

    private static void machineInTick(Edges e) {
        e.edge("TICK by TICK", p -> {
            // d begins behind c, in TICK 6.
            String late = "n*1;a*1;b+1;c+n";
            Probe made = p.fresh(late).with(0, 2).with(7, 3);
            made.is("c", made.x.begins(2), 60);
            made.is("d", made.x.begins(3), 64);
            comesToWhatIsTold(made, late);
            String behind = "n*1;a+1;b+n";
            Probe second = p.fresh(behind).with(0, 2).with(6, 1).with(7, 3);
            second.is("b", second.x.begins(1), 30);
            second.is("c", second.x.begins(2), 31);
            comesToWhatIsTold(second, behind);
            // The last ACT begins long ahead of the others.
            String first = "n*1;a*n;b*2;n+1";
            comesToWhatIsTold(p.fresh(first).with(7, 4), first);
            // Three SUMS one behind the other, and then an ACT at the begin of that TICK.
            String three = "n+1;a+1;b+1;n*2";
            Probe within = p.fresh(three).with(0, 3).with(6, 3);
            within.is("c", within.x.begins(2), 6);
            within.is("d", within.x.begins(3), 0);
            comesToWhatIsTold(within, three);
            // a begins a PART behind c of the ROUND ahead.
            String part = "c'+1;n*n;b+1";
            Probe next = p.fresh(part).with(0, 2).with(6, 1).with(7, 1);
            next.is("GAP", next.x.gap(), 1);
            next.is("a", next.x.begins(0), 1);
            next.is("c", next.x.begins(2), 10);
            comesToWhatIsTold(next, part);
        });
        e.edge("n ROUNDS (0 .. 40) are done by THE PLAN, TICK by TICK", p -> {
            // In each TICK d, c and b begin one behind the other, of three ROUNDS, each with the VALUE of the one ahead.
            String loop = "b'+n;c'+n;d'+n;e'+n;n*n";
            for (int n = 0; n <= 40; n++) {
                Probe made = p.fresh(loop).with(0, 4).with(6, 3).with(7, 4);
                made.is("TICKS", made.x.machine(n), n == 0 ? 0 : n + 3);
                Probe told = p.fresh(loop);
                told.x.plays(n);
                made.row(told.row() + " 0");
            }
            Probe plan = p.fresh(loop).with(0, 4).with(6, 3).with(7, 4);
            int[] times = {10, 16, 23, 30, 0};
            for (int k = 0; k < times.length; k++) {
                plan.is("begins(" + k + ")", plan.x.begins(k), times[k]);
            }
        });
    }

    private static void saves(Edges e) {
        e.promise(31);
        e.edge("1000 and so many (below 1000, if it takes more)", p -> {
            p.x.least();
            String row = p.row();
            p.is("without ACTS", p.x.saves(40), 1000);
            p.loop(STREAM);
            p.is("0", p.x.saves(0), 1000);
            p.is("1", p.x.saves(1), 1000);
            p.is("2", p.x.saves(2), 1005);
            p.is("40", p.x.saves(40), 1195);
            p.row(row);
            p.loop("n+1;n+2;n+3");
            p.is("GAP as long as length()", p.x.saves(40), 1000);
            p.loop("n*1;a*2;b+1;n+1");
            p.is("as machine() and length() tell", p.x.saves(9), 1000 + 9 * p.x.length() - p.x.machine(9));
        });
        e.edge("NONE: n is not 0 .. 40", p -> {
            p.loop(STREAM);
            p.x.least();
            for (int n : NO_ROUNDS) {
                p.keepsAll("saves(" + n + ")", () -> p.x.saves(n), -1);
            }
        });
    }

    public static void main(String[] args) {
        all().end(29, 31);
    }
}
