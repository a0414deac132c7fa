import java.lang.management.ManagementFactory;
import java.lang.reflect.InvocationTargetException;
import java.lang.reflect.Method;
import java.lang.reflect.Modifier;
import java.util.NoSuchElementException;

/**
 * All calls of one run live in one room: 512 calls of each kind, on one object, may make nearly nothing. And no call,
 * whatever it is given in whatever state, throws anything but what the document tells.
 */
public final class RoomTest {
    private static final long MOST_BYTES_OF_OBJECT = 64 * 1024;
    private static final long MOST_BYTES_OF_CALLS = 32 * 1024;
    private static final String[] LOOPS = {"", "j'*a';a*a;b*b;c*c;d*d;e*e;f*f;g*g;h*h;i*i",
        "n+1;a+1;b+1;c+1;d+1;e+1;f+1;g+1;h+1;i+1", "1+2;2+3;3+4;4+5;5+6;6+7;7+8;8+9;9+1;1-2",
        "A[n];A[a]=b';A[1]=1;B[a]=b;A[2]=2;A[3];B[c''];A[4]=4;B[n]=n;B[0]"};

    private static int failed = 0;

    private static long allocated() {
        com.sun.management.ThreadMXBean bean = (com.sun.management.ThreadMXBean) ManagementFactory.getThreadMXBean();
        return bean.getThreadAllocatedBytes(Thread.currentThread().getId());
    }

    private static void callAll(LoopsToUnits x, int[] fours, int signs, int i) {
        for (int v : fours) {
            x.sign(v);
        }
        x.end(signs);
        x.loop();
        x.sets(i % 9, 1 + i % 4);
        x.least();
        x.earliest(1 + i % 60);
        x.latest(1 + i % 60);
        x.knots();
        x.gap();
        x.why();
        x.plan(1 + i % 60);
        x.length();
        x.tick(i, 40);
        x.registers();
        x.binds(0);
        x.binds(1);
        x.shares(0);
        x.plays(40);
        x.machine(40);
        x.saves(40);
        x.cheapest(1 + i % 60);
        x.would(i % 9, 1 + i % 3);
        x.years(i, 20);
        x.keep(i % 2);
        x.runs(40);
        x.undo();
        x.again(i % 2);
    }

    private static void checkRoom() {
        new LoopsToUnits();
        long before = allocated();
        LoopsToUnits x = new LoopsToUnits();
        long made = allocated() - before;
        if (made > MOST_BYTES_OF_OBJECT) {
            failed++;
            System.out.println("an object takes " + made + " bytes");
        }
        for (String t : LOOPS) {
            int[] fours = Texts.fours(t);
            callAll(x, fours, t.length(), 7);
            before = allocated();
            for (int i = 0; i < 512; i++) {
                callAll(x, fours, t.length(), i);
            }
            made = allocated() - before;
            if (made > MOST_BYTES_OF_CALLS) {
                failed++;
                System.out.println("calls with " + t + " take " + made + " bytes");
            }
        }
    }

    private static void checkThrows() throws IllegalAccessException {
        int[] edges = {Integer.MIN_VALUE, -201, -2, -1, 0, 1, 2, 3, 9, 10, 15, 16, 17, 40, 41, 60, 61, Integer.MAX_VALUE};
        for (String t : LOOPS) {
            LoopsToUnits x = new LoopsToUnits();
            Texts.tell(x, t);
            x.loop();
            for (Method m : LoopsToUnits.class.getDeclaredMethods()) {
                if (Modifier.isPublic(m.getModifiers())) {
                    int many = m.getParameterCount();
                    for (int code = 0; code < Math.pow(edges.length, Math.min(many, 3)); code++) {
                        Object[] args = new Object[many];
                        int rest = code;
                        for (int i = 0; i < many; i++) {
                            args[i] = edges[rest % edges.length];
                            rest /= edges.length;
                        }
                        call(x, m, args);
                    }
                    Texts.tell(x, t);
                    x.loop();
                }
            }
        }
    }

    private static void call(LoopsToUnits x, Method m, Object[] args) throws IllegalAccessException {
        try {
            m.invoke(x, args);
        } catch (InvocationTargetException e) {
            boolean told = m.getExceptionTypes().length == 1 && e.getCause().getClass() == NoSuchElementException.class;
            if (!told) {
                failed++;
                System.out.println(m.getName() + " throws " + e.getCause());
            }
        }
    }

    public static void main(String[] args) throws IllegalAccessException {
        checkRoom();
        checkThrows();
        System.out.println((failed == 0 ? 1 : 0) + " passed, " + failed + " failed");
        System.exit(failed == 0 ? 0 : 1);
    }
}
