import java.util.List;
import java.util.NoSuchElementException;
import java.util.function.LongSupplier;
import java.util.stream.Collectors;
import java.util.stream.IntStream;
import java.util.stream.LongStream;

/**
 * An object under test, with what a test of one sentence asks of it. To see that nothing changed takes many calls, so
 * that some objects are asked more than the 512 calls that the document speaks of: the program does not count them.
 */
final class Probe {
    static final String ZEROS = "0 0 0 0 0 0 0 0 0 0 0 0 0 0 0 0";
    static final int MAX = Integer.MAX_VALUE;
    static final int MIN = Integer.MIN_VALUE;

    final LoopsToUnits x = new LoopsToUnits();
    private final String name;
    private final List<String> faults;

    Probe(String name, List<String> faults) {
        this.name = name;
        this.faults = faults;
    }

    /** Another new object for the same sentence. */
    Probe fresh() {
        return new Probe(name, faults);
    }

    /** Another new object, with a loop. */
    Probe fresh(String loop) {
        Probe other = fresh();
        other.loop(loop);
        return other;
    }

    /** This, with one of UNITS set. */
    Probe with(int what, int v) {
        x.sets(what, v);
        return this;
    }

    void same(String what, String got, String want) {
        if (!got.equals(want)) {
            faults.add(name + ": " + what + " is " + got + ", due is " + want);
        }
    }

    void is(String what, long got, long want) {
        same(what, Long.toString(got), Long.toString(want));
    }

    void is(String what, boolean got, boolean want) {
        same(what, Boolean.toString(got), Boolean.toString(want));
    }

    void noSuch(String what, LongSupplier call) {
        String got;
        try {
            got = Long.toString(call.getAsLong());
        } catch (NoSuchElementException e) {
            got = "NoSuchElementException";
        }
        same(what, got, "NoSuchElementException");
    }

    void tell(String text) {
        Texts.tell(x, text);
    }

    int loop(String text) {
        tell(text);
        return x.loop();
    }

    int memory(int m, String text) {
        tell(text);
        return x.memory(m);
    }

    int day(String text) {
        tell(text);
        return x.day();
    }

    private static String joined(LongStream numbers) {
        return numbers.mapToObj(Long::toString).collect(Collectors.joining(" "));
    }

    String row() {
        return joined(IntStream.range(0, x.count(15)).mapToLong(x::row));
    }

    /** The ROW, with spaces between. */
    void row(String want) {
        same("the ROW", row(), want);
    }

    String cells(int m) {
        return joined(IntStream.range(0, 16).mapToLong(c -> x.cell(m, c)));
    }

    String units() {
        return joined(IntStream.range(5, 14).mapToLong(x::count));
    }

    String acts() {
        return joined(IntStream.range(0, 4 * x.count(0)).mapToLong(i -> x.act(i / 4, i % 4)));
    }

    /** What undo() brings back. */
    String held() {
        return acts() + " / " + cells(0) + " / " + cells(1) + " / " + units();
    }

    private String heldAndUndone() {
        return held() + " / " + x.count(14);
    }

    /** A call that changes nothing at all, not even the ROW or THE TEXT. */
    void keepsAll(String what, LongSupplier call, long want) {
        String before = heldAndUndone() + " / " + row() + " / " + x.count(16);
        is(what, call.getAsLong(), want);
        same("what is behind " + what, heldAndUndone() + " / " + row() + " / " + x.count(16), before);
    }

    /** A call that changes nothing but the ROW. */
    void asks(String what, LongSupplier call) {
        String before = heldAndUndone() + " / " + x.count(16);
        call.getAsLong();
        same("what is behind " + what, heldAndUndone() + " / " + x.count(16), before);
    }

    /** A call that reads THE TEXT and is refused: it empties it, and changes nothing else. */
    void refusesText(String text, LongSupplier call, long want) {
        String before = heldAndUndone() + " / " + row();
        tell(text);
        is("of '" + text + "' the answer", call.getAsLong(), want);
        same("what is behind '" + text + "'", heldAndUndone() + " / " + row(), before);
        is("signs behind '" + text + "'", x.count(16), 0);
    }

    void refusesLoop(String text, int at) {
        refusesText(text, x::loop, -1 - at);
    }

    static long bit(boolean b) {
        return b ? 1 : 0;
    }
}
