import java.lang.reflect.Constructor;
import java.lang.reflect.Field;
import java.lang.reflect.Method;
import java.lang.reflect.Modifier;
import java.util.Arrays;
import java.util.Set;
import java.util.TreeSet;

/** The public face is the document's, and no other member is seen from outside. */
public final class FaceTest {
    private static final String[] FACE = {"public static final int LoopsToUnits.NONE", "public LoopsToUnits()",
        "public int LoopsToUnits.sign(int)", "public boolean LoopsToUnits.end(int)", "public int LoopsToUnits.loop()",
        "public int LoopsToUnits.memory(int)",
        "public int LoopsToUnits.cell(int,int) throws java.util.NoSuchElementException",
        "public int LoopsToUnits.act(int,int) throws java.util.NoSuchElementException",
        "public int LoopsToUnits.sheet(int,int,int,int)", "public int LoopsToUnits.sets(int,int)",
        "public int LoopsToUnits.writes(int,int,int)", "public int LoopsToUnits.runs(int)", "public int LoopsToUnits.day()",
        "public int LoopsToUnits.undo()", "public int LoopsToUnits.least()", "public int LoopsToUnits.earliest(int)",
        "public int LoopsToUnits.latest(int)", "public int LoopsToUnits.knots()", "public int LoopsToUnits.address(int)",
        "public int LoopsToUnits.gap()", "public int LoopsToUnits.begins(int) throws java.util.NoSuchElementException",
        "public int LoopsToUnits.why()", "public int LoopsToUnits.plan(int)", "public int LoopsToUnits.length()",
        "public int LoopsToUnits.state(int)", "public int LoopsToUnits.tick(int,int)", "public int LoopsToUnits.registers()",
        "public int LoopsToUnits.binds(int)", "public int LoopsToUnits.shares(int)", "public int LoopsToUnits.plays(int)",
        "public int LoopsToUnits.machine(int)", "public int LoopsToUnits.saves(int)", "public int LoopsToUnits.cheapest(int)",
        "public int LoopsToUnits.would(int,int)", "public int LoopsToUnits.years(int,int)",
        "public boolean LoopsToUnits.keep(int)", "public boolean LoopsToUnits.again(int)", "public int LoopsToUnits.count(int)",
        "public long LoopsToUnits.row(int) throws java.util.NoSuchElementException"};

    public static void main(String[] args) {
        Class<?> c = LoopsToUnits.class;
        Set<String> seen = new TreeSet<>();
        for (Field f : c.getDeclaredFields()) {
            if (!Modifier.isPrivate(f.getModifiers()) && !f.isSynthetic()) {
                seen.add(f.toString());
            }
        }
        for (Method m : c.getDeclaredMethods()) {
            if (!Modifier.isPrivate(m.getModifiers()) && !m.isSynthetic()) {
                seen.add(m.toString());
            }
        }
        for (Constructor<?> m : c.getDeclaredConstructors()) {
            if (!Modifier.isPrivate(m.getModifiers()) && !m.isSynthetic()) {
                seen.add(m.toString());
            }
        }
        Set<String> due = new TreeSet<>(Arrays.asList(FACE));
        boolean right = seen.equals(due) && Modifier.isFinal(c.getModifiers()) && Modifier.isPublic(c.getModifiers())
                && c.getSuperclass() == Object.class && c.getInterfaces().length == 0;
        if (!right) {
            System.out.println("seen: " + seen);
        }
        System.out.println((right ? 1 : 0) + " passed, " + (right ? 0 : 1) + " failed");
        System.exit(right ? 0 : 1);
    }
}
