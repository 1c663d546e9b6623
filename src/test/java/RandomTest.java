import java.lang.reflect.InvocationTargetException;
import java.lang.reflect.Method;
import java.util.ArrayList;
import java.util.List;
import java.util.Random;

/**
 * Runs of calls that a fixed seed draws, on Blankform and on the Oracle: each answer, or the exception
 * in its place, must be the same.
 */
public final class RandomTest {

    private static final String KEYS = "abcdef ~{}#^/.|:>!-=$*<0123456789";
    private static final int CALLS = 512;

    /** What a run is bent on; other runs take all alike. */
    private static final int FEW_NAMES = 1;
    private static final int HEIRS = 2;
    private static final int FEW_FORMS = 3;
    private static final int ROUNDS = 4;
    private static final int LONG_WORDS = 5;
    private static final int KINDS = 6;

    private final Random random;
    private final int kind;
    private final Blankform desk = new Blankform();
    private final Oracle oracle = new Oracle();
    private final List<String> told = new ArrayList<>();
    private boolean isWrong;

    private RandomTest(long seed) {
        random = new Random(seed);
        kind = (int) (seed % KINDS);
    }

    public static void main(String[] args) throws Exception {
        int runs = args.length > 0 ? Integer.parseInt(args[0]) : 1200;
        int first = args.length > 1 ? Integer.parseInt(args[1]) : 1;
        int wrong = 0;
        for (int seed = first; seed < first + runs && wrong < 3; seed++) {
            RandomTest test = new RandomTest(seed);
            test.run();
            if (test.isWrong) {
                wrong++;
                System.out.println("seed " + seed + ":");
                for (String line : test.told) {
                    System.out.println("  " + line);
                }
            }
        }
        if (wrong > 0) {
            System.exit(1);
        }
        System.out.println("RandomTest: " + runs + " runs of " + CALLS + " calls answer alike");
    }

    private void run() throws Exception {
        for (int form = 0; form < below(7) && !isWrong; form++) {
            type(form(3, 60));
            ask("form", form);
            ask("row", form, -1, -1, 0);
            for (int k = 0; k < below(9); k++) {
                type(words());
                ask("row", form, -1, -1, 1);
            }
        }
        while (told.size() < CALLS - 1 && !isWrong) {
            step();
        }
        if (!isWrong) {
            compare("digest");
        }
    }

    private int below(int bound) {
        return random.nextInt(bound);
    }

    private boolean chance(int percent) {
        return below(100) < percent;
    }

    private void step() throws Exception {
        switch (below(20)) {
            case 0:
            case 1:
            case 2:
            case 3:
                type(chance(85) ? form(3, 52) : noise());
                ask("form", aForm());
                break;
            case 4:
                type(chance(50) ? words() : form(2, 60));
                ask("fault", chance(50));
                ask("escape");
                ask("unescape");
                ask("filter", chance(98) ? below(10) : below(2) * 11 - 1);
                ask("wouldGive", chance(50));
                break;
            case 5:
            case 6:
                type(words());
                path("text");
                break;
            case 7:
                path("number", chance(98) ? below(30) - 9 : chance(50) ? below(4) * 3333 : 10000);
                path("truth", chance(50));
                break;
            case 8:
            case 9:
                rows();
                break;
            case 10:
                if (chance(40)) {
                    path("take");
                } else if (chance(10)) {
                    ask("wipe");
                }
                path("ofData", chance(98) ? below(5) : below(2) * 6 - 1);
                path("words");
                break;
            case 11:
                ask("heir", aForm(), aForm());
                if (chance(20)) {
                    ask("lone", aForm());
                }
                break;
            case 12:
                if (chance(40)) {
                    ask("strict", chance(50));
                }
                ask("house", chance(95) ? below(8) : below(2) * 9 - 1);
                ask("blank");
                ask("knock");
                break;
            case 13:
            case 14:
                ask("keep", aForm());
                ask("keep", aForm());
                if (chance(6)) {
                    ask("burn");
                }
                break;
            case 15:
                ask("ofForm", aForm(), chance(98) ? below(11) : below(2) * 12 - 1);
                ask("asks", aForm());
                ask("block", aForm(), chance(95) ? below(6) : below(2) * 7 - 1);
                break;
            case 16:
            case 17:
                int form = aForm();
                ask("fill", form);
                for (int what = 0; what <= 7; what++) {
                    ask("filling", form, what);
                }
                ask("only", form, chance(97) ? below(64) : below(2) * 65 - 1);
                ask("joined", form, aForm());
                break;
            case 18:
                ask("letter", below(9) - (chance(5) ? 1 : 0));
                ask("back", below(5), below(5));
                ask("common", below(5), below(5), chance(95) ? below(3) : below(2) * 4 - 1);
                break;
            default:
                ask("isSound");
                if (chance(30)) {
                    ask("digest");
                }
                break;
        }
    }

    private int aForm() {
        return chance(97) ? below(kind == FEW_FORMS || kind == ROUNDS ? 3 : 6) : below(2) * 7 - 1;
    }

    private int name() {
        return below(kind == FEW_NAMES || kind == ROUNDS ? 2 : 6);
    }

    private void path(String call, Object... more) throws Exception {
        int deep = below(3);
        int a = name();
        int b = deep > 0 ? name() : -1;
        int c = deep > 1 ? name() : -1;
        if (chance(3)) {
            a = below(8) - 1;
            b = below(8) - 2;
            c = below(8) - 2;
        }
        Object[] all = new Object[3 + more.length];
        all[0] = a;
        all[1] = b;
        all[2] = c;
        System.arraycopy(more, 0, all, 3, more.length);
        ask(call, all);
    }

    private void rows() throws Exception {
        int a = name();
        ask("row", a, -1, -1, 0);
        int many = chance(30) || kind == ROUNDS ? 9 : below(4);
        for (int k = 0; k < many; k++) {
            int what = 1 + below(3);
            if (what == 1 && chance(kind == ROUNDS ? 5 : 60)) {
                type(words());
            }
            ask("row", a, -1, -1, what);
            if (what == 2 && chance(60)) {
                ask("number", a, name(), -1, below(20) - 5);
                if (chance(50)) {
                    ask("row", a, name(), -1, 0);
                    ask("row", a, name(), -1, 1);
                    ask("text", a, name(), name());
                }
            }
        }
        path("row", chance(97) ? below(4) : below(2) * 5 - 1);
    }

    private void type(String signs) throws Exception {
        int[] codes = new int[signs.length() + 1];
        codes[0] = chance(98) ? 34 : -1;
        for (int k = 0; k < signs.length(); k++) {
            codes[k + 1] = KEYS.indexOf(signs.charAt(k));
        }
        if (chance(2)) {
            codes[below(codes.length)] = chance(50) ? 33 : below(40) - 3;
        }
        for (int k = 0; k < codes.length; k += 6) {
            Object[] some = new Object[6];
            for (int i = 0; i < 6; i++) {
                some[i] = k + i < codes.length ? codes[k + i] : -1;
            }
            ask("say", some);
        }
    }

    private String words() {
        String keys = chance(70) ? "abcdef  ~<012" : KEYS;
        StringBuilder out = new StringBuilder();
        int length = chance(kind == LONG_WORDS ? 60 : 15) ? 60 : chance(10) ? 0 : below(9);
        for (int k = 0; k < length; k++) {
            out.append(keys.charAt(below(keys.length())));
        }
        return out.toString();
    }

    private String noise() {
        StringBuilder out = new StringBuilder(chance(70) ? form(3, 56) : "");
        int many = 1 + below(4);
        for (int k = 0; k < many; k++) {
            int at = below(out.length() + 1);
            if (chance(50) && at < out.length()) {
                out.deleteCharAt(at);
            } else {
                out.insert(at, KEYS.charAt(below(KEYS.length())));
            }
        }
        return out.toString();
    }

    /** Some text that is mostly a FORM, of about so many signs. */
    private String form(int deep, int room) {
        StringBuilder out = new StringBuilder();
        while (out.length() < room && !chance(12)) {
            String more = piece(deep, room - out.length());
            if (out.length() + more.length() <= room) {
                out.append(more);
            } else if (chance(50)) {
                break;
            }
        }
        return out.toString();
    }

    private String piece(int deep, int room) {
        if (kind == ROUNDS && deep > 0 && chance(50)) {
            return tag("#" + path()) + form(deep - 1, room - 9) + tag("/");
        }
        switch (below(kind == HEIRS ? 8 : 12)) {
            case 0:
            case 1:
                if (deep > 0) {
                    String otherwise = chance(40) ? tag("^") + form(deep - 1, room / 3) : "";
                    return tag("#" + path()) + form(deep - 1, room / 2) + otherwise + tag("/");
                }
                return tag(path());
            case 2:
                return tag(">" + letter());
            case 3:
                return deep > 0 ? tag("$" + letter()) + form(deep - 1, room / 2) + tag("/") : tag("*");
            case 4:
                return tag("*");
            case 5:
            case 6:
                return tag((chance(30) ? "=" : "") + path() + filters());
            case 7:
                return tag("!" + words().replace("{", "").replace("}", ""));
            default:
                return words().replace("{", "").replace("}", "");
        }
    }

    private char letter() {
        return "abcdef".charAt(below(kind == FEW_FORMS || kind == ROUNDS ? 3 : 6));
    }

    private String tag(String inside) {
        return "{" + (chance(15) ? "-" : "") + inside + (chance(15) ? "-" : "") + "}";
    }

    private String path() {
        if (chance(25)) {
            return String.valueOf(".012".charAt(below(4)));
        }
        StringBuilder out = new StringBuilder();
        int names = chance(60) ? 1 : 1 + below(3);
        for (int k = 0; k < names; k++) {
            out.append(k > 0 ? "." : "").append("abcdef".charAt(name()));
        }
        return out.toString();
    }

    private String filters() {
        StringBuilder out = new StringBuilder();
        int many = chance(40) ? 0 : 1 + below(4);
        for (int k = 0; k < many; k++) {
            out.append('|').append(below(10));
            if (chance(40)) {
                out.append(':');
                int signs = 1 + below(3);
                for (int i = 0; i < signs; i++) {
                    out.append("abf 0139".charAt(below(8)));
                }
            }
        }
        return out.toString();
    }

    /** The last one of all calls is left for digest(). */
    private void ask(String call, Object... given) throws Exception {
        if (told.size() < CALLS - 1) {
            compare(call, given);
        }
    }

    private void compare(String call, Object... given) throws Exception {
        Object got = answer(desk, call, given);
        Object due = answer(oracle, call, given);
        told.add(call + List.of(given) + " answered " + got + ", due is " + due);
        if (!due.equals(got)) {
            isWrong = true;
        }
    }

    private static Object answer(Object of, String call, Object[] given) throws Exception {
        for (Method method : methodsOf(of)) {
            if (method.getName().equals(call) && method.getParameterCount() == given.length) {
                try {
                    return method.invoke(of, given);
                } catch (InvocationTargetException e) {
                    return "throws " + e.getCause().getClass().getName();
                }
            }
        }
        throw new AssertionError("there is no call " + call);
    }

    private static final Method[] OF_DESK = Blankform.class.getMethods();
    private static final Method[] OF_ORACLE = Oracle.class.getMethods();

    private static Method[] methodsOf(Object of) {
        return of instanceof Blankform ? OF_DESK : OF_ORACLE;
    }
}
