/** Boundary cases of promises 35 to 38: keep, again, count, row. */
public final class EdgesOfKeptTest {
    static Edges all() {
        Edges e = new Edges();
        keep(e);
        again(e);
        count(e);
        row(e);
        return e;
    }

    private static void keep(Edges e) {
        e.promise(35);
        e.edge("What undo() brings back is kept under a number 0 .. 1: true", p -> {
            p.loop("A[n];a*3");
            p.memory(0, "1,2");
            p.memory(1, "3,4");
            p.day("u02u41u69");
            String first = p.held();
            p.keepsAll("keep(1)", () -> Probe.bit(p.x.keep(1)), 1);
            p.loop("n+1");
            p.x.sets(8, 3);
            p.x.sheet(3, 0, 0, 0);
            String second = p.held();
            p.keepsAll("keep(0)", () -> Probe.bit(p.x.keep(0)), 1);
            p.memory(1, "");
            p.x.again(1);
            p.same("all", p.held(), first);
            p.x.again(0);
            p.same("all", p.held(), second);
            p.x.again(1);
            p.is("in the place of what was kept", p.x.keep(0), true);
            p.x.writes(1, 1, 1);
            p.x.again(0);
            p.same("all", p.held(), first);
        });
        e.edge("Refused: others", p -> {
            p.loop("n+1");
            for (int i : new int[] {2, -1, Probe.MAX, Probe.MIN}) {
                p.keepsAll("keep(" + i + ")", () -> Probe.bit(p.x.keep(i)), 0);
            }
            p.is("nothing was kept", p.x.again(0) || p.x.again(1), false);
        });
    }

    private static void again(Edges e) {
        e.promise(36);
        e.edge("It is as it was kept under a number", p -> {
            p.loop("A[n];a*3;b+1;A[n]=c");
            p.x.sets(7, 1);
            p.memory(0, "1,2,3");
            String kept = p.held();
            int gap = p.x.gap();
            p.x.keep(0);
            p.loop("n*1;n*2");
            p.x.sets(7, 4);
            p.x.sets(1, 3);
            p.x.runs(3);
            p.memory(0, "");
            p.x.least();
            p.tell("ab");
            String row = p.row();
            p.is("GAP", p.x.gap(), 1);
            p.x.least();
            p.is("again(0)", p.x.again(0), true);
            p.same("all", p.held(), kept);
            p.row(row);
            p.is("THE TEXT stays", p.x.count(16), 2);
            p.is("GAP", p.x.gap(), gap);
            p.x.writes(0, 0, 77);
            p.is("again(0), a second time", p.x.again(0), true);
            p.same("all", p.held(), kept);
            Probe none = p.fresh();
            none.x.keep(1);
            none.loop("n+1");
            none.x.again(1);
            none.is("without ACTS", none.x.gap(), 0);
        });
        e.edge("Refused: nothing kept", p -> {
            p.loop("n+1");
            for (int i : new int[] {0, 1, 2, -1, Probe.MAX, Probe.MIN}) {
                p.keepsAll("again(" + i + ")", () -> Probe.bit(p.x.again(i)), 0);
            }
            p.x.keep(0);
            p.x.writes(0, 0, 1);
            p.keepsAll("the other number", () -> Probe.bit(p.x.again(1)), 0);
            p.is("again(0)", p.x.again(0), true);
        });
    }

    private static void count(Edges e) {
        e.promise(37);
        e.edge("What 0: ACTS, 1: SUMS, 2: PRODUCTS, 3: LOADS, 4: STORES, 5 .. 13: as sets() of 0 .. 8, 14: what can be undone, 15: numbers of the ROW, 16: signs of THE TEXT", p -> {
            p.loop("n+1;n-1;n<1;n*1;n*2;A[0];B[0];A[1];B[1];B[2]=1");
            int[] due = {10, 3, 2, 4, 1};
            for (int what = 0; what < due.length; what++) {
                p.is("count(" + what + ")", p.x.count(what), due[what]);
            }
            p.is("what can be undone", p.x.count(14), 1);
            p.day("u02u13u24u32u41u51u69u74u83");
            p.same("UNITS", p.units(), "2 3 4 2 1 1 9 4 3");
            p.is("what can be undone", p.x.count(14), 2);
            p.is("the ROW of day()", p.x.count(15), 1);
            p.x.machine(1);
            p.is("the longest ROW", p.x.count(15), 11);
            p.x.address(0);
            p.is("nothing", p.x.count(15), 0);
            p.is("no signs", p.x.count(16), 0);
            p.x.sign(0);
            p.is("signs", p.x.count(16), 4);
            p.x.end(1);
            p.is("a sign", p.x.count(16), 1);
            p.loop("");
        });
        e.edge("NONE for another what", p -> {
            p.loop("n+1");
            p.x.least();
            for (int what : new int[] {-1, 17, Probe.MAX, Probe.MIN}) {
                p.keepsAll("count(" + what + ")", () -> p.x.count(what), -1);
            }
        });
    }

    private static void row(Edges e) {
        e.promise(38);
        e.edge("Number i of the ROW", p -> {
            p.loop("A[0];n+1;1+1;1+1;1+1;1+1;1+1;1+1;1+1;3*3");
            p.x.writes(0, 0, Probe.MIN);
            p.x.machine(1);
            p.is("the first", p.x.row(0), Probe.MIN);
            p.is("the tenth", p.x.row(9), 9);
            p.is("the eleventh", p.x.row(10), Probe.MIN);
        });
        e.edge("NoSuchElementException: none such", p -> {
            p.noSuch("at first", () -> p.x.row(0));
            p.loop("n+1;n+2");
            p.noSuch("behind loop()", () -> p.x.row(0));
            p.x.least();
            p.is("the last", p.x.row(4), 0);
            for (int i : new int[] {5, -1, Probe.MAX, Probe.MIN}) {
                p.noSuch("row(" + i + ")", () -> p.x.row(i));
            }
            p.x.gap();
            p.noSuch("a shorter one", () -> p.x.row(2));
            p.x.binds(1);
            p.noSuch("an empty one", () -> p.x.row(0));
        });
    }

    public static void main(String[] args) {
        all().end(35, 38);
    }
}
