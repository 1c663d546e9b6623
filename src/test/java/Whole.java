import java.util.ArrayList;
import java.util.Arrays;
import java.util.IdentityHashMap;
import java.util.List;
import java.util.Map;
import java.util.function.Consumer;
import java.util.function.Supplier;

/**
 * All that can be asked of a desk. An object is used for 512 calls alone, so that the desk is made
 * anew for some hundred of them.
 */
final class Whole {

    private static final int CALLS = 360;
    private static final Map<Supplier<Blankform>, List<String>> KNOWN = new IdentityHashMap<>();

    private Whole() {
    }

    private interface Asked {
        Object answer(Blankform x);
    }

    static List<String> of(Supplier<Blankform> maker) {
        List<String> all = new ArrayList<>();
        aboutAll(maker.get(), all);
        aboutForms(maker.get(), all);
        aboutPaths(maker, all);
        aboutRows(maker.get(), all);
        return all;
    }

    /** The call throws just this exception (null: none), and nothing is changed. */
    static void refuses(String call, Supplier<Blankform> maker, Class<? extends Exception> due, Consumer<Blankform> run) {
        Check.due(call + " throws", thrown(maker.get(), run), due);
        stays(call, maker, run);
    }

    /** Whether it throws or not, the call changes nothing. */
    static void stays(String call, Supplier<Blankform> maker, Consumer<Blankform> run) {
        List<String> before = KNOWN.computeIfAbsent(maker, Whole::of);
        List<String> after = of(() -> {
            Blankform x = maker.get();
            thrown(x, run);
            return x;
        });
        for (int k = 0; k < before.size() && k < after.size(); k++) {
            if (!before.get(k).equals(after.get(k))) {
                Check.due(call + ", and then: " + before.get(k), after.get(k), before.get(k));
                return;
            }
        }
        Check.due(call + ": how much there is to ask", after.size(), before.size());
    }

    static Class<?> thrown(Blankform x, Consumer<Blankform> run) {
        try {
            run.accept(x);
            return null;
        } catch (RuntimeException e) {
            return e.getClass();
        }
    }

    private static void aboutAll(Blankform x, List<String> all) {
        all.add("typed() " + x.typed());
        all.add("fault() " + x.fault(false) + " line " + x.fault(true));
        for (int what = 0; what <= 7; what++) {
            all.add("house(" + what + ") " + x.house(what));
        }
        all.add("escape() " + x.escape() + " unescape() " + x.unescape());
        for (int filter = 0; filter <= 9; filter++) {
            all.add("filter(" + filter + ") " + x.filter(filter));
        }
        all.add("wouldGive() " + x.wouldGive(false) + " in strict " + x.wouldGive(true));
        all.add("isSound() " + x.isSound());
        all.add("digest() " + x.digest());
        int letters = x.house(1);
        for (int k = 0; k < letters; k++) {
            all.add("letter(" + k + ") " + x.letter(k) + " back " + x.back(0, k) + " " + x.back(k, 0)
                    + " common " + x.common(0, k, 0) + " " + x.common(0, k, 1) + " " + x.common(k, 0, 2));
        }
    }

    private static void aboutForms(Blankform x, List<String> all) {
        for (int form = 0; form <= 5; form++) {
            for (int what = 0; what <= 10; what++) {
                all.add("ofForm(" + form + ", " + what + ") " + x.ofForm(form, what));
            }
            if (x.ofForm(form, 0) == 0) {
                continue;
            }
            all.add("fill(" + form + ") " + x.fill(form));
            for (int what = 0; what <= 7; what++) {
                all.add("filling(" + form + ", " + what + ") " + x.filling(form, what));
            }
            for (int letter = 0; letter <= 5; letter++) {
                all.add("block(" + form + ", " + letter + ") " + x.block(form, letter));
            }
            all.add("asks(" + form + ") " + x.asks(form) + " only " + x.only(form, 0) + " " + x.only(form, 21));
            for (int other = 0; other <= 5; other++) {
                Object joined = x.ofForm(other, 0) == 1 ? x.joined(form, other) : "not there";
                all.add("joined(" + form + ", " + other + ") " + joined);
            }
        }
    }

    private static void aboutPaths(Supplier<Blankform> maker, List<String> all) {
        Blankform x = maker.get();
        int calls = 0;
        for (int[] path : paths()) {
            if (calls > CALLS) {
                x = maker.get();
                calls = 0;
            }
            StringBuilder told = new StringBuilder("at " + Arrays.toString(path) + " " + x.words(path[0], path[1], path[2]));
            for (int what = 0; what <= 4; what++) {
                told.append(' ').append(x.ofData(path[0], path[1], path[2], what));
            }
            all.add(told.toString());
            calls += 6;
        }
    }

    /** What stands in ROWS can only be told by what they give in a SECTION. */
    private static void aboutRows(Blankform x, List<String> all) {
        x.strict(false);
        for (char name = 'a'; name <= 'f'; name++) {
            Check.form(x, 5, "{#" + name + "}{0}{.|2}{=.|6:9}{a}{b}{c}{d}{e}{f} {^}-{/}");
            x.lone(5);
            all.add("the row " + name + " " + x.fill(5));
        }
    }

    /** All PATHS of one to three NAMES. */
    static List<int[]> paths() {
        List<int[]> all = new ArrayList<>();
        for (int a = 0; a <= 5; a++) {
            for (int b = -1; b <= 5; b++) {
                for (int c = -1; c <= (b == -1 ? -1 : 5); c++) {
                    all.add(new int[] {a, b, c});
                }
            }
        }
        return all;
    }
}
