/** Boundary cases of promises 1 to 8: a new object, sign, end, loop, memory, cell, act, sheet. */
public final class EdgesOfTextsTest {
    private static final String TEN = "1+1;1+1;1+1;1+1;1+1;1+1;1+1;1+1;1+1;1+1";
    private static final String SIXTEEN = "1,2,3,4,5,6,7,8,9,0,1,2,3,4,5,6";

    static Edges all() {
        Edges e = new Edges();
        newObject(e);
        sign(e);
        end(e);
        loop(e);
        loopWrong(e);
        memory(e);
        memoryWrong(e);
        cell(e);
        act(e);
        sheet(e);
        sheetWrong(e);
        return e;
    }

    private static void newObject(Edges e) {
        e.promise(1);
        e.edge("No ACTS", p -> {
            for (int what = 0; what <= 4; what++) {
                p.is("count(" + what + ")", p.x.count(what), 0);
            }
            p.noSuch("a", () -> p.x.act(0, 0));
            p.is("nothing to be undone", p.x.count(14), 0);
            p.is("no ROW", p.x.count(15), 0);
            p.is("no TEXT", p.x.count(16), 0);
            p.is("nothing kept", p.x.again(0) || p.x.again(1), false);
        });
    }

    private static void sign(Edges e) {
        e.promise(2);
        e.edge("Four signs come behind THE TEXT, of v the highest byte first", p -> {
            p.x.sign(0x6e2b313b);
            p.x.sign(0x612a6100);
            p.x.end(7);
            p.is("n+1;a*a", p.x.loop(), 2);
            p.same("ACTS", p.acts(), "0 -1 10 1 3 -1 11 11");
            p.x.sign(0x312b3180);
            p.is("the lowest byte, with its highest bit", p.x.loop(), -4);
            p.x.sign(0xb12b3131);
            p.is("the highest byte, with its highest bit", p.x.loop(), -1);
        });
        e.edge("how many it has", p -> {
            for (int i = 1; i <= 20; i++) {
                p.is("sign", p.x.sign(0), 4 * i);
            }
            p.is("count(16)", p.x.count(16), 80);
        });
        e.edge("Refused: there would be more than 80", p -> {
            for (int i = 0; i < 20; i++) {
                p.x.sign(0x72307231);
            }
            p.keepsAll("84", () -> p.x.sign(0x78787878), -1);
            p.x.end(79);
            p.keepsAll("83", () -> p.x.sign(0x78787878), -1);
            p.x.end(77);
            p.keepsAll("81", () -> p.x.sign(0x78787878), -1);
            p.x.end(76);
            p.is("80", p.x.sign(0x72307231), 80);
            p.is("a full text is read whole", p.x.day(), 40);
        });
    }

    private static void end(Edges e) {
        e.promise(3);
        e.edge("THE TEXT has its first n signs alone: true", p -> {
            p.x.sign(0x312b3131);
            p.is("end(3)", p.x.end(3), true);
            p.is("count(16)", p.x.count(16), 3);
            p.is("end(3) again", p.x.end(3), true);
            p.is("loop()", p.x.loop(), 1);
            p.x.sign(0x312b3131);
            p.is("all", p.x.end(4), true);
            p.is("count(16)", p.x.count(16), 4);
            p.is("none", p.x.end(0), true);
            p.is("count(16)", p.x.count(16), 0);
            p.is("none of none", p.x.end(0), true);
            p.is("an empty text", p.x.loop(), 0);
        });
        e.edge("its first n signs alone", p -> {
            String[] whole = {"A[n]", "A[n]=1", "1+1;b'+1", "1+a'", "1+a''", "1+1;a+b", "1+1", "1+1;"};
            int[] cut = {3, 5, 5, 3, 4, 6, 2, 4};
            int[] at = {3, 5, 4, 2, -1, 6, 2, 4};
            for (int i = 0; i < whole.length; i++) {
                p.tell(whole[i]);
                p.x.end(cut[i]);
                p.is(whole[i] + " cut to " + cut[i], p.x.loop(), at[i] < 0 ? 1 : -1 - at[i]);
            }
            p.tell("-12,34");
            p.x.end(4);
            p.is("a memory", p.x.memory(0), -5);
            p.tell("-12,34");
            p.x.end(1);
            p.is("a memory", p.x.memory(0), -2);
            p.tell("12,34");
            p.x.end(1);
            p.is("a memory", p.x.memory(0), 1);
            p.is("CELL 0", p.x.cell(0, 0), 1);
            p.tell("u02wA015r1");
            p.x.end(9);
            p.is("a day", p.x.day(), -10);
            p.tell("u02wA015r1");
            p.x.end(3);
            p.is("a day", p.x.day(), 1);
        });
        e.edge("false if it has not so many", p -> {
            p.keepsAll("1 of none", () -> Probe.bit(p.x.end(1)), 0);
            p.x.sign(0x312b3131);
            p.keepsAll("5 of 4", () -> Probe.bit(p.x.end(5)), 0);
            p.keepsAll("the greatest", () -> Probe.bit(p.x.end(Probe.MAX)), 0);
            p.x.end(2);
            p.keepsAll("3 of 2: cut signs do not come back", () -> Probe.bit(p.x.end(3)), 0);
        });
        e.edge("or n is below 0", p -> {
            p.x.sign(0x312b3131);
            p.keepsAll("-1", () -> Probe.bit(p.x.end(-1)), 0);
            p.keepsAll("the least", () -> Probe.bit(p.x.end(Probe.MIN)), 0);
        });
    }

    private static void loop(Edges e) {
        e.promise(4);
        e.edge("(an empty one: none)", p -> {
            p.loop("n+1");
            p.is("loop()", p.x.loop(), 0);
            p.is("ACTS", p.x.count(0), 0);
            p.is("undo()", p.x.undo(), 1);
            p.is("ACTS", p.x.count(0), 1);
        });
        e.edge("how many ACTS", p -> {
            p.is("1", p.loop("A[0]"), 1);
            p.is("10", p.loop(TEN), 10);
            p.is("ACTS", p.x.count(0), 10);
            p.is("2, in the place of 10", p.loop("n+1;B[a]=2"), 2);
            p.same("ACTS", p.acts(), "0 -1 10 1 5 1 11 2");
        });
        e.edge("THE TEXT is THE LOOP", p -> {
            String[] loops = {"n*1;n*2;b*3", "A[5];b'*1;n*1", "A[n];A[0]=a;a'+b", "n+1;n+2;n-3;A[c];A[b]=a;A[n]", "c'+n;A[n];b+1", "A[n]", "c'+1;a+1;b+1", "",
                "b'+n;c'+n;d'+n;e'+n;n*n"};
            p.x.sets(0, 2);
            for (int i = 0; i < 2 * loops.length; i++) {
                String text = loops[i % loops.length];
                p.loop(text);
                p.same("all that is asked of " + text, asked(p), asked(p.fresh(text).with(0, 2)));
            }
        });
        e.edge("-200: a letter with ' is of no ACT (asked behind it)", p -> {
            p.is("the last one's", p.loop("1+1;b'+1"), 2);
            p.refusesText("1+1;c'+1", p.x::loop, -200);
            p.refusesText("c''+1;1+1", p.x::loop, -200);
            p.refusesText("1+1;1+c'", p.x::loop, -200);
            p.refusesText("A[b']", p.x::loop, -200);
            p.refusesText("A[1]=j''", p.x::loop, -200);
            p.refusesText("j'+1;" + TEN.substring(8), p.x::loop, -200);
            p.refusesText("j'+a'", p.x::loop, -200);
            p.refusesText("1+1;c'+b'", p.x::loop, -200);
            p.refusesText("c'+1;b'+a'", p.x::loop, -200);
            p.refusesText("b'+c';1+1", p.x::loop, -200);
            p.refusesText("A[b'']=a'", p.x::loop, -200);
            p.is("j of 10", p.loop("j'+1;" + TEN.substring(4)), 10);
            p.refusesLoop("c'+1;x", 5);
            p.refusesLoop("c'+", 3);
            p.refusesLoop("c'+1;", 5);
            p.refusesLoop("j'+1;" + TEN, 40);
        });
    }

    /** Answers and ROWS of questions, as one text. */
    private static String asked(Probe p) {
        StringBuilder all = new StringBuilder(p.acts());
        java.util.function.IntConsumer note = answer -> all.append(" / ").append(answer).append(": ").append(p.row());
        note.accept(p.x.least());
        note.accept(p.x.gap());
        note.accept(p.x.why());
        note.accept(p.x.knots());
        note.accept(p.x.earliest(3));
        note.accept(p.x.latest(3));
        note.accept(p.x.registers());
        note.accept(p.x.binds(1));
        note.accept(p.x.machine(3));
        for (int k = 0; k < p.x.count(0); k++) {
            note.accept(p.x.address(k));
            note.accept(p.x.begins(k));
        }
        return all.toString();
    }

    private static void loopWrong(Edges e) {
        e.edge("-1 - p: the sign at p can't stand there", p -> {
            p.loop("n+1;a*2");
            String[] wrong = {"x", "+1", "n", "n/1", "n+x", "n+1x", "n+1;x", "A(n]", "AA[n]", "A[n)", "A[+]", "A[]", "B[]=1", "A[1]=]", "A[n]+1", "A[n]==1",
                "A[n]=1+1", "C[n]", "a'''+1", "n'+1", "1'+1", "n+1;;a+1", ";n+1", " n+1", "n+1 ", "N+1", "@[n]", "n+1,n+2", "n>1", "n=1"};
            int[] at = {0, 0, 1, 1, 2, 3, 4, 1, 1, 3, 2, 2, 2, 5, 4, 5,
                6, 0, 3, 1, 1, 4, 0, 0, 3, 0, 0, 3, 1, 1};
            for (int i = 0; i < wrong.length; i++) {
                p.refusesLoop(wrong[i], at[i]);
            }
            p.x.sign(0x6e2b3100);
            p.is("a sign 0 behind an ACT", p.x.loop(), -4);
            p.x.sign(-1);
            p.is("a sign 255", p.x.loop(), -1);
        });
        e.edge("(a letter, without ' behind it, of an ACT that is not told ahead: the letter", p -> {
            p.loop("n+1;a*2");
            String[] wrong = {"a+1", "1+a", "A[a]", "A[1]=a", "b+1;1+1", "1+1;b+1", "1+1;1*b", "1+1;B[b]", "1+1;B[a]=b", "j+1", "1+1;1+j", "a", "1+1;b"};
            int[] at = {0, 2, 2, 5, 0, 4, 6, 6, 9, 0, 6, 0, 4};
            for (int i = 0; i < wrong.length; i++) {
                p.refusesLoop(wrong[i], at[i]);
            }
            p.refusesLoop("1+1;1+1;1+1;1+1;1+1;1+1;1+1;1+1;1+1;1+j", 38);
            p.is("the one ahead", p.loop("1+1;1+1;1+1;1+1;1+1;1+1;1+1;1+1;1+1;1+i"), 10);
        });
        e.edge("the ; ahead of an eleventh ACT", p -> {
            p.loop(TEN);
            p.refusesLoop(TEN + ";1+1", 39);
            p.refusesLoop(TEN + ";", 39);
            p.refusesLoop(TEN + ";x", 39);
            p.refusesLoop(TEN + "x", 39);
            p.refusesLoop("A[1]=2;" + TEN, 42);
        });
        e.edge("its end, if it ends too early)", p -> {
            String whole = "A[n];a*3;b'+1;A[n]=c";
            int[] acts = new int[whole.length() + 1];
            acts[4] = 1;
            acts[8] = 2;
            acts[13] = 3;
            acts[18] = 4;
            acts[20] = 4;
            for (int signs = 1; signs <= whole.length(); signs++) {
                String text = whole.substring(0, signs);
                p.is(text, p.loop(text), acts[signs] > 0 ? acts[signs] : -1 - signs);
                p.is("signs", p.x.count(16), 0);
            }
            p.refusesLoop("1+1;b'", 6);
            p.refusesLoop("1+1;a", 5);
            p.refusesLoop(TEN.substring(0, 36), 36);
        });
    }

    private static void memory(Edges e) {
        e.promise(5);
        e.edge("numbers of 1 to 3 digits (as many as stand there)", p -> {
            p.is("1, 2, 3 digits", p.memory(0, "7,77,777,0,00,000,010,999"), 8);
            p.same("A", p.cells(0), "7 77 777 0 0 0 10 999 0 0 0 0 0 0 0 0");
            p.refusesText("7777", () -> p.x.memory(0), -4);
            p.refusesText("1,0007", () -> p.x.memory(0), -6);
            p.refusesText("-1000", () -> p.x.memory(0), -5);
        });
        e.edge("each with a - ahead of it if wanted", p -> {
            p.is("below 0", p.memory(1, "-1,2,-999,-0"), 4);
            p.same("B", p.cells(1), "-1 2 -999 0 0 0 0 0 0 0 0 0 0 0 0 0");
            p.refusesText("--1", () -> p.x.memory(1), -2);
            p.refusesText("1-", () -> p.x.memory(1), -2);
            p.refusesText("+1", () -> p.x.memory(1), -1);
        });
        e.edge("with , between (at most 16; none: an empty text)", p -> {
            p.is("16", p.memory(0, SIXTEEN), 16);
            p.same("A", p.cells(0), SIXTEEN.replace(',', ' '));
            p.is("15", p.memory(1, SIXTEEN.substring(0, 29)), 15);
            p.is("none", p.x.memory(0), 0);
            p.same("A", p.cells(0), Probe.ZEROS);
            p.is("of B nothing changed", p.x.cell(1, 14), 5);
        });
        e.edge("for CELLS 0, 1, ..; those behind are 0: how many were told", p -> {
            p.memory(0, SIXTEEN);
            p.memory(1, SIXTEEN);
            p.is("1", p.memory(1, "8"), 1);
            p.same("B", p.cells(1), "8 0 0 0 0 0 0 0 0 0 0 0 0 0 0 0");
            p.same("A", p.cells(0), SIXTEEN.replace(',', ' '));
            p.is("15", p.memory(0, SIXTEEN.substring(0, 29)), 15);
            p.same("A", p.cells(0), "1 2 3 4 5 6 7 8 9 0 1 2 3 4 5 0");
        });
    }

    private static void memoryWrong(Edges e) {
        e.edge("-1 - p: the sign at p can't stand there", p -> {
            p.memory(0, "5,6");
            String[] wrong = {"x", "1x", "1,x", "1,,2", ",1", "1;2", " 1", "1 ", "-x", "-,1", "12a", "1.5"};
            int[] at = {0, 1, 2, 2, 0, 1, 0, 1, 1, 1, 2, 1};
            for (int i = 0; i < wrong.length; i++) {
                p.refusesText(wrong[i], () -> p.x.memory(0), -1 - at[i]);
            }
        });
        e.edge("(the , ahead of a 17th", p -> {
            p.memory(0, "5,6");
            p.refusesText(SIXTEEN + ",7", () -> p.x.memory(0), -32);
            p.refusesText(SIXTEEN + ",", () -> p.x.memory(1), -32);
            p.refusesText(SIXTEEN + "x", () -> p.x.memory(1), -32);
        });
        e.edge("its end, if it ends too early)", p -> {
            p.memory(0, "5,6");
            p.refusesText("-", () -> p.x.memory(0), -2);
            p.refusesText("1,", () -> p.x.memory(0), -3);
            p.refusesText("1,-", () -> p.x.memory(0), -4);
            p.refusesText(SIXTEEN.substring(0, 30), () -> p.x.memory(0), -31);
        });
        e.edge("NONE: no such MEMORY (asked behind THE TEXT; so is -1 - 0)", p -> {
            p.memory(0, "5,6");
            for (int m : new int[] {2, -1, Probe.MAX, Probe.MIN}) {
                p.refusesText("1,2", () -> p.x.memory(m), -1);
                p.refusesText("", () -> p.x.memory(m), -1);
                p.refusesText("1,,", () -> p.x.memory(m), -3);
                p.refusesText("x", () -> p.x.memory(m), -1);
            }
        });
    }

    private static void cell(Edges e) {
        e.promise(6);
        e.edge("What is in CELL x of a MEMORY", p -> {
            p.x.writes(0, 0, 1);
            p.x.writes(0, 15, 2);
            p.x.writes(1, 0, 3);
            p.x.writes(1, 15, 4);
            p.is("A 0", p.x.cell(0, 0), 1);
            p.is("A 15", p.x.cell(0, 15), 2);
            p.is("B 0", p.x.cell(1, 0), 3);
            p.is("B 15", p.x.cell(1, 15), 4);
        });
        e.edge("NoSuchElementException: none such", p -> {
            int[][] none = {{-1, 0}, {2, 0}, {0, -1}, {0, 16}, {1, -1}, {1, 16}, {Probe.MIN, 0}, {Probe.MAX, 0}, {0, Probe.MIN}, {1, Probe.MAX}};
            for (int[] a : none) {
                p.noSuch("cell(" + a[0] + ", " + a[1] + ")", () -> p.x.cell(a[0], a[1]));
            }
        });
    }

    private static void act(Edges e) {
        e.promise(7);
        e.edge("what 0: its sort (0 +, 1 -, 2 <, 3 *, 4 LOAD, 5 STORE)", p -> {
            p.loop("1+1;1-1;1<1;1*1;A[1];A[1]=1");
            for (int k = 0; k < 6; k++) {
                p.is("sort", p.x.act(k, 0), k);
            }
        });
        e.edge("1: its MEMORY (NONE: none)", p -> {
            p.loop("1+1;1*1;A[1];A[1]=1;B[1];B[1]=1");
            int[] due = {-1, -1, 0, 0, 1, 1};
            for (int k = 0; k < 6; k++) {
                p.is("MEMORY", p.x.act(k, 1), due[k]);
            }
        });
        e.edge("(of LOAD and STORE the one in [ ] first; NONE: none)", p -> {
            p.loop("A[3];B[4]=5");
            p.same("ACTS", p.acts(), "4 0 3 -1 5 1 4 5");
        });
        e.edge("a digit itself, n 10, a letter 11 and its ACT, 30 more with one ', 60 more with two", p -> {
            p.loop("0+9;n-n;a<b;j'*j'';a'+a'';A[i''];i'+1;1+1;1+1;a*i");
            p.same("ACTS", p.acts(), "0 -1 0 9 1 -1 10 10 2 -1 11 12 3 -1 50 80 0 -1 41 71 4 0 79 -1 0 -1 49 1"
                    + " 0 -1 1 1 0 -1 1 1 3 -1 11 19");
        });
        e.edge("NoSuchElementException: none such, another what", p -> {
            p.noSuch("without ACTS", () -> p.x.act(0, 0));
            p.loop("1+1;1+1");
            p.noSuch("act(2, 0)", () -> p.x.act(2, 0));
            p.noSuch("act(-1, 0)", () -> p.x.act(-1, 0));
            p.noSuch("act(MIN, 0)", () -> p.x.act(Probe.MIN, 0));
            p.noSuch("act(MAX, 0)", () -> p.x.act(Probe.MAX, 0));
            p.noSuch("act(0, 4)", () -> p.x.act(0, 4));
            p.noSuch("act(0, -1)", () -> p.x.act(0, -1));
            p.loop(TEN);
            p.is("act(9, 0)", p.x.act(9, 0), 0);
            p.noSuch("act(10, 0)", () -> p.x.act(10, 0));
            p.loop("1*1");
            p.noSuch("an ACT of the loop ahead", () -> p.x.act(1, 0));
        });
    }

    private static void sheet(Edges e) {
        e.promise(8);
        e.edge("(as ints; of bytes, shorts the lowest bits, with their sign)", p -> {
            p.is("bytes", p.x.sheet(0, 4, 126, 1), 4);
            p.same("A", p.cells(0), "126 127 -128 -127 0 0 0 0 0 0 0 0 0 0 0 0");
            p.is("bytes of 256, 512, ..", p.x.sheet(0, 3, 256, 256), 0);
            p.is("shorts", p.x.sheet(1, 4, 32766, 1), 4);
            p.same("A", p.cells(0), "32766 32767 -32768 -32767 0 0 0 0 0 0 0 0 0 0 0 0");
            p.is("a short of 65536", p.x.sheet(1, 2, 65536, 1), 1);
            p.is("ints", p.x.sheet(2, 3, Probe.MAX, 1), 3);
            p.same("A", p.cells(0), "2147483647 -2147483648 -2147483647 0 0 0 0 0 0 0 0 0 0 0 0 0");
            p.is("a great step", p.x.sheet(2, 3, 0, Probe.MIN), 1);
            p.same("A", p.cells(0), "0 -2147483648 0 0 0 0 0 0 0 0 0 0 0 0 0 0");
            p.is("bytes, as ints first", p.x.sheet(0, 3, Probe.MAX, Probe.MAX), 3);
            p.same("A", p.cells(0), "-1 -2 -3 0 0 0 0 0 0 0 0 0 0 0 0 0");
        });
        e.edge("those behind the last become 0: how many CELLS are not 0 then", p -> {
            for (int i = 0; i < 16; i++) {
                p.x.writes(1, i, 7);
            }
            p.is("16", p.x.sheet(2, 16, 1, 1), 16);
            p.same("A", p.cells(0), "1 2 3 4 5 6 7 8 9 10 11 12 13 14 15 16");
            p.is("15", p.x.sheet(2, 15, 1, 1), 15);
            p.is("the last", p.x.cell(0, 15), 0);
            p.is("one of them 0", p.x.sheet(2, 5, -2, 1), 4);
            p.is("none", p.x.sheet(2, 0, 9, 9), 0);
            p.same("A", p.cells(0), Probe.ZEROS);
            p.same("B stays", p.cells(1), "7 7 7 7 7 7 7 7 7 7 7 7 7 7 7 7");
        });
        e.edge("Nothing is kept of it that could be undone (an undo() behind it brings CELLS back, too, as they were ahead of what is undone)", p -> {
            p.x.sheet(2, 2, 5, 1);
            p.is("nothing is kept", p.x.count(14), 0);
            p.is("undo()", p.x.undo(), -1);
            p.is("CELLS stay", p.x.cell(0, 0), 5);
            p.x.sets(0, 3);
            p.x.sheet(2, 16, 7, 0);
            p.is("undo() of sets()", p.x.undo(), 0);
            p.same("A", p.cells(0), "5 6 0 0 0 0 0 0 0 0 0 0 0 0 0 0");
            p.x.writes(1, 1, 1);
            p.x.sheet(3, 0, 0, 0);
            p.x.undo();
            p.same("A, behind a missing one", p.cells(0), "5 6 0 0 0 0 0 0 0 0 0 0 0 0 0 0");
        });
    }

    private static void sheetWrong(Edges e) {
        e.edge("-2: n below 0 (of kinds 0 .. 2; nothing changes)", p -> {
            p.x.sheet(2, 3, 1, 1);
            for (int kind = 0; kind <= 2; kind++) {
                int of = kind;
                p.keepsAll("-1", () -> p.x.sheet(of, -1, 9, 9), -2);
                p.keepsAll("the least", () -> p.x.sheet(of, Probe.MIN, 9, 9), -2);
            }
        });
        e.edge("-3: missing (all 0)", p -> {
            for (int n : new int[] {-1, 0, 16, Probe.MIN}) {
                p.x.sheet(2, 16, 1, 1);
                p.is("missing", p.x.sheet(3, n, 9, 9), -3);
                p.same("A", p.cells(0), Probe.ZEROS);
            }
        });
        e.edge("NONE: another kind, n above 16 (these first)", p -> {
            p.x.sheet(2, 3, 1, 1);
            int[][] none = {{4, 1}, {-1, 1}, {4, -1}, {-1, -1}, {4, 17}, {0, 17}, {1, 17}, {2, 17}, {3, 17}, {3, Probe.MAX}, {Probe.MAX, 0}, {Probe.MIN, 0}};
            for (int[] a : none) {
                p.keepsAll("sheet(" + a[0] + ", " + a[1] + ")", () -> p.x.sheet(a[0], a[1], 9, 9), -1);
            }
        });
    }

    public static void main(String[] args) {
        all().end(1, 8);
    }
}
