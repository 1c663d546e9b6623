import java.util.Arrays;
import java.util.Objects;

/** What the tests have in common: they count what is wrong, and end with exit code 1 if anything was. */
final class Check {

    private static final String KEYS = "abcdef ~{}#^/.|:>!-=$*<0123456789";
    private static int checked;
    private static int wrong;

    private Check() {
    }

    static void due(String call, Object got, Object due) {
        checked++;
        if (!Objects.equals(got, due)) {
            wrong++;
            System.out.println(Sentence.ahead() + call + " answered " + got + ", due is " + due);
        }
    }

    static int checked() {
        return checked;
    }

    /** The call throws just this exception, and nothing is changed. */
    static void refuses(Blankform desk, String call, Class<? extends Exception> due, Runnable run) {
        long before = desk.digest();
        String typed = desk.typed();
        Object got = "nothing";
        try {
            run.run();
        } catch (RuntimeException e) {
            got = e.getClass();
        }
        due(call + " throws", got, due);
        due(call + ", digest() after that", desk.digest(), before);
        due(call + ", typed() after that", desk.typed(), typed);
    }

    /** TYPED is this text from now on; six signs a call, as an object is used for 512 calls alone. */
    static Blankform type(Blankform desk, String text) {
        int[] codes = new int[(text.length() / 6 + 1) * 6];
        Arrays.fill(codes, -1);
        codes[0] = 34;
        for (int k = 0; k < text.length(); k++) {
            codes[k + 1] = KEYS.indexOf(text.charAt(k));
            if (codes[k + 1] < 0) {
                throw new AssertionError("there is no key for " + text.charAt(k));
            }
        }
        for (int k = 0; k < codes.length; k += 6) {
            desk.say(codes[k], codes[k + 1], codes[k + 2], codes[k + 3], codes[k + 4], codes[k + 5]);
        }
        return desk;
    }

    static int form(Blankform desk, int form, String text) {
        return type(desk, text).form(form);
    }

    static int text(Blankform desk, int name, String text) {
        return type(desk, text).text(name, -1, -1);
    }

    /** A ROW of TEXTS under a NAME. */
    static void row(Blankform desk, int name, String... texts) {
        desk.row(name, -1, -1, 0);
        for (String text : texts) {
            type(desk, text).row(name, -1, -1, 1);
        }
    }

    /** What a text would give as a FORM that stands alone; "!" if it has a FAULT or fails. */
    static String given(Blankform desk, String form) {
        return form(desk, 5, form) < 0 ? "!" : desk.fill(5);
    }

    static void end(String test) {
        System.out.println(test + ": " + checked + " checks, " + wrong + " wrong");
        if (wrong > 0) {
            System.exit(1);
        }
    }
}
