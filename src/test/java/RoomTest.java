import com.sun.management.ThreadMXBean;
import java.lang.management.ManagementFactory;
import java.util.function.Consumer;

/**
 * All calls of one run live in one room of some 600,000 objects and 7.3 million elements. A new object
 * and 512 of the dearest calls must stay far below that, told in bytes (of some of them each call's share).
 */
public final class RoomTest {

    private static final int CALLS = 300;
    private static final long OBJECT_BYTES = 600_000;
    private static final long CALL_BYTES = 4_000;

    private RoomTest() {
    }

    private static long allocated() {
        ThreadMXBean bean = (ThreadMXBean) ManagementFactory.getThreadMXBean();
        return bean.getThreadAllocatedBytes(Thread.currentThread().getId());
    }

    private static void below(String what, long bytes, long most) {
        Check.due(what + " takes " + bytes + " bytes, at most " + most, bytes <= most, true);
    }

    public static void main(String[] args) {
        new Blankform().digest();
        allocated();
        long before = allocated();
        Blankform x = new Blankform();
        below("a new object", allocated() - before, OBJECT_BYTES);
        x.digest();
        measure("digest()", y -> y.digest());
        measure("isSound()", y -> y.isSound());
        measure("fill()", y -> y.fill(0));
        measure("joined()", y -> y.joined(1, 1));
        measure("back()", y -> y.back(0, 1));
        measure("words()", y -> y.words(0, -1, -1));
        measure("filter()", y -> y.filter(7));
        measure("escape()", y -> y.escape());
        measure("text()", y -> y.text(5, 1, 2));
        measure("row()", y -> y.row(5, 1, 3, 0));
        measure("form()", y -> y.form(4));
        measure("fault()", y -> y.fault(true));
        Check.end("RoomTest");
    }

    private static void measure(String call, Consumer<Blankform> run) {
        Blankform x = new Blankform();
        fillDesk(x);
        run.accept(x);
        long before = allocated();
        for (int k = 0; k < CALLS; k++) {
            run.accept(x);
        }
        below(call, (allocated() - before) / CALLS, CALL_BYTES);
    }

    private static void fillDesk(Blankform x) {
        Check.row(x, 0, "f".repeat(60), "e", "d", "c", "b", "a", "0", "1");
        Check.row(x, 1, "", "", "", "", "", "");
        Check.form(x, 0, "{#a}{#b}{a|9|7|9|4}{b|8:abc|2}{>b}{/}{a|9|7|9|7}{/}");
        Check.form(x, 1, "{a|9|7|4|1}{.|2|2|2|2}{0}");
        Check.form(x, 2, "{#b}{$a}{>b}{/}{/}{>a}");
        Check.form(x, 3, "{$a}{*}{*}{a|9|9|9|5}{/}");
        x.heir(3, 2);
        x.number(2, -1, -1, 12);
        Check.form(x, 4, "{#b}{#a}{/}{c}{c}{c}{c}{c}{c}{/}");
        Check.form(x, 5, "{a|4}{a|4|7|1}{c}{a|5}");
        x.keep(5);
        Check.form(x, 5, "{a|4|7|1}{c|7}{a|4}{a|5}");
        x.keep(5);
        Check.type(x, "{#a}{a|9|7|9|4}{b|8:abc|2}{/}{<");
    }
}
