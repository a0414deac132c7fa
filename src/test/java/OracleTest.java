import java.lang.reflect.InvocationTargetException;
import java.lang.reflect.Method;
import java.lang.reflect.Modifier;
import java.util.ArrayList;
import java.util.List;
import java.util.Random;

/** Runs of calls that a seed draws, on LoopsToUnits and on Oracle: every answer, ROW and state must be the same. */
public final class OracleTest {
    private static final List<Method> CALLS = new ArrayList<>();

    private final Random random;
    private final LoopsToUnits mine = new LoopsToUnits();
    private final Oracle due = new Oracle();
    private final List<String> told = new ArrayList<>();
    private int calls = 0;
    private boolean wrong = false;
    private boolean ringed = false;

    private OracleTest(long seed) {
        random = new Random(seed);
    }

    private static String outcome(Object on, String name, Class<?>[] types, Object[] args) {
        try {
            Method m = on.getClass().getMethod(name, types);
            return String.valueOf(m.invoke(on, args));
        } catch (InvocationTargetException e) {
            return "throws." + e.getCause().getClass().getSimpleName();
        } catch (ReflectiveOperationException e) {
            throw new IllegalStateException(e);
        }
    }

    private String call(String name, int... args) {
        Object[] boxed = new Object[args.length];
        Class<?>[] types = new Class<?>[args.length];
        StringBuilder words = new StringBuilder(name).append('(');
        for (int i = 0; i < args.length; i++) {
            boxed[i] = args[i];
            types[i] = int.class;
            words.append(i == 0 ? "" : ", ").append(args[i]);
        }
        String got = outcome(mine, name, types, boxed);
        String want = outcome(due, name, types, boxed);
        told.add(words.append(") = ").append(got).toString());
        calls++;
        if (!got.equals(want) && !wrong) {
            wrong = true;
            System.out.println("due is " + want + ":\n  " + String.join("\n  ", told));
        }
        return got;
    }

    private void text(String t) {
        for (int v : Texts.fours(t)) {
            call("sign", v);
        }
        call("end", t.length());
    }

    private String operand(int k, int acts) {
        // Long ways along BOUNDS against the order of letters, which rings pass more than once.
        if (ringed && random.nextInt(3) != 0 && k + 1 < acts) {
            return (char) ('a' + k + 1 + random.nextInt(Math.min(2, acts - k - 1))) + "'";
        }
        int kind = random.nextInt(10);
        if (kind < 2) {
            return Integer.toString(random.nextInt(10));
        }
        if (kind < 4) {
            return "n";
        }
        if (kind < 7 && k > 0) {
            return "" + (char) ('a' + random.nextInt(k));
        }
        String letter = "" + (char) ('a' + random.nextInt(acts));
        return letter + (random.nextInt(3) == 0 ? "''" : "'");
    }

    private String loopText() {
        int acts = 1 + random.nextInt(10);
        boolean heavy = random.nextInt(3) == 0;
        ringed = random.nextInt(5) == 0;
        StringBuilder t = new StringBuilder();
        for (int k = 0; k < acts; k++) {
            t.append(k == 0 ? "" : ";");
            int kind = random.nextInt(10);
            if (kind < 4) {
                String first = random.nextInt(4) == 0 ? "n" : operand(k, acts);
                t.append(first).append("+-<".charAt(random.nextInt(3)));
                t.append(random.nextInt(3) == 0 ? Integer.toString(random.nextInt(10)) : operand(k, acts));
            } else if (kind < 6) {
                t.append(operand(k, acts)).append('*').append(operand(k, acts));
            } else {
                t.append(heavy || random.nextBoolean() ? 'A' : 'B').append('[').append(operand(k, acts)).append(']');
                if (random.nextInt(3) == 0) {
                    t.append('=').append(operand(k, acts));
                }
            }
        }
        return t.toString();
    }

    private String spoilt(String t) {
        if (t.isEmpty() || random.nextInt(8) != 0) {
            return t;
        }
        StringBuilder s = new StringBuilder(t);
        String signs = "abjkn0159AB[]=;'+-<*,uwrCz ~" + (char) 200 + (char) 0;
        int p = random.nextInt(s.length());
        switch (random.nextInt(3)) {
            case 0:
                s.setCharAt(p, signs.charAt(random.nextInt(signs.length())));
                break;
            case 1:
                s.insert(p, signs.charAt(random.nextInt(signs.length())));
                break;
            default:
                s.deleteCharAt(p);
                break;
        }
        return s.toString();
    }

    private String memoryText() {
        int many = random.nextInt(18);
        StringBuilder t = new StringBuilder();
        for (int i = 0; i < many; i++) {
            t.append(i == 0 ? "" : ",").append(random.nextInt(4) == 0 ? "-" : "").append(random.nextInt(random.nextInt(4) == 0 ? 1100 : 30));
        }
        return t.toString();
    }

    private String dayText() {
        int many = random.nextInt(5);
        StringBuilder t = new StringBuilder();
        for (int i = 0; i < many; i++) {
            switch (random.nextInt(3)) {
                case 0:
                    t.append('u').append(random.nextInt(10)).append(random.nextInt(6));
                    break;
                case 1:
                    t.append('w').append("AB".charAt(random.nextInt(2))).append(random.nextInt(2)).append(random.nextInt(10)).append(random.nextInt(10));
                    break;
                default:
                    t.append('r').append(random.nextInt(10));
                    break;
            }
        }
        return t.toString();
    }

    private int some(String name, int i) {
        int odd = random.nextInt(12);
        if (odd == 0) {
            int[] edges = {-1, -2, Integer.MIN_VALUE, Integer.MAX_VALUE, 41, 61, 17, 60, 40, 100};
            return edges[random.nextInt(edges.length)];
        }
        switch (name) {
            case "earliest": case "latest": case "plan": case "cheapest":
                return random.nextInt(3) == 0 ? random.nextInt(62) : random.nextInt(12);
            case "plays": case "machine": case "saves": case "runs":
                return random.nextInt(3) == 0 ? random.nextInt(42) : random.nextInt(6);
            case "tick":
                return i == 0 ? random.nextInt(80) : random.nextInt(42);
            case "state":
                return random.nextInt(8);
            case "years":
                return i == 0 ? random.nextInt() : random.nextInt(22);
            case "sets": case "would":
                return i == 0 ? random.nextInt(10) : random.nextInt(6);
            case "cell": case "writes":
                return i == 0 ? random.nextInt(3) : i == 1 ? random.nextInt(17) : random.nextInt(5) - 2;
            case "act":
                return i == 0 ? random.nextInt(11) : random.nextInt(5);
            case "sheet":
                return i == 0 ? random.nextInt(5) : i == 1 ? random.nextInt(19) - 1 : random.nextInt(3) == 0 ? random.nextInt() : random.nextInt(600) - 300;
            case "count":
                return random.nextInt(18);
            default:
                return random.nextInt(11);
        }
    }

    private void rowAll() {
        int many = Integer.parseInt(call("count", 15));
        for (int i = -1; i <= many; i++) {
            call("row", i);
        }
    }

    private void drawnCall() {
        Method m = CALLS.get(random.nextInt(CALLS.size()));
        String name = m.getName();
        if (name.equals("sign") || name.equals("end")) {
            return;
        }
        if (random.nextInt(3) == 0 || name.equals("loop")) {
            text(spoilt(loopText()));
            call("loop");
        } else if (name.equals("memory")) {
            text(spoilt(memoryText()));
            call("memory", random.nextInt(8) == 0 ? 2 : random.nextInt(2));
        } else if (name.equals("day")) {
            text(spoilt(dayText()));
            call("day");
        } else if (name.equals("again") && random.nextInt(3) != 0) {
            call("undo");
        } else {
            int[] args = new int[m.getParameterCount()];
            for (int i = 0; i < args.length; i++) {
                args[i] = some(name, i);
            }
            call(name, args);
        }
        rowAll();
    }

    /** Asks everything of one loop. */
    private void askAll() {
        text(loopText());
        call("loop");
        for (int i = random.nextInt(4); i > 0; i--) {
            call("sets", random.nextInt(9), random.nextInt(11));
        }
        for (Method m : CALLS) {
            String name = m.getName();
            if (List.of("sign", "end", "loop", "memory", "day", "undo", "again", "years", "sheet", "runs").contains(name)) {
                continue;
            }
            int[] args = new int[m.getParameterCount()];
            for (int i = 0; i < args.length; i++) {
                args[i] = some(name, i);
            }
            call(name, args);
            rowAll();
        }
        call("years", random.nextInt(), 1 + random.nextInt(20));
        rowAll();
        for (int what = 0; what < 18; what++) {
            call("count", what);
        }
    }

    public static void main(String[] args) {
        for (Method m : LoopsToUnits.class.getDeclaredMethods()) {
            if (Modifier.isPublic(m.getModifiers())) {
                CALLS.add(m);
            }
        }
        CALLS.sort((x, y) -> x.getName().compareTo(y.getName()));
        int runs = args.length > 0 ? Integer.parseInt(args[0]) : 1500;
        long first = args.length > 1 ? Long.parseLong(args[1]) : 1;
        int failed = 0;
        long calls = 0;
        for (int run = 0; run < runs; run++) {
            OracleTest test = new OracleTest(first + run);
            if (run % 2 == 0) {
                test.askAll();
            } else {
                for (int i = 0; i < 30 && !test.wrong; i++) {
                    test.drawnCall();
                }
            }
            calls += test.calls;
            failed += test.wrong ? 1 : 0;
            if (failed >= 3) {
                break;
            }
        }
        System.out.println("OracleTest: " + calls + " calls compared");
        System.out.println((runs - failed) + " passed, " + failed + " failed");
        System.exit(failed == 0 ? 0 : 1);
    }
}
