import java.util.Random;

/**
 * FAULT of many short texts: every one of up to three signs behind "{", and of longer ones such that
 * are typed on from what can be a FORM, compared with what the Oracle finds by trying all ends.
 */
public final class FaultTest {

    private static final String SIGNS = "a ~{}#^/.|:>!-=$*03";
    private static final String KEYS = "abcdef ~{}#^/.|:>!-=$*<0123456789";

    private FaultTest() {
    }

    public static void main(String[] args) {
        Oracle oracle = new Oracle();
        behind(oracle, "{", 3);
        behind(oracle, "{a|3", 2);
        behind(oracle, "{a|3:a", 2);
        behind(oracle, "{#a}", 3);
        behind(oracle, "{$a}{", 2);
        behind(oracle, "{#a}{^}{", 2);
        behind(oracle, "{#a}{$b}{", 2);
        behind(oracle, "{$a}{#b}{", 2);
        behind(oracle, "{#a}{#a}{#a}{#a}{", 2);
        behind(oracle, "{#a}{#a}{#a}{$a}{", 2);
        behind(oracle, "{a|0|1|2|3", 2);
        behind(oracle, "{=a.b", 2);
        behind(oracle, "{-=.", 2);
        behind(oracle, "{$a}{/}{$b}{/}{$c}{/}{$d}{/}{$e}{/}{$f}{/}{", 2);
        Random random = new Random(41);
        for (int k = 0; k < 3000; k++) {
            walk(oracle, random);
        }
        Check.end("FaultTest");
    }

    private static void behind(Oracle oracle, String begin, int more) {
        compare(oracle, begin);
        for (int k = 0; more > 0 && k < SIGNS.length(); k++) {
            behind(oracle, begin + SIGNS.charAt(k), more - 1);
        }
    }

    /** Types signs that can go on, and now and then any sign. */
    private static void walk(Oracle oracle, Random random) {
        StringBuilder text = new StringBuilder();
        int length = 5 + random.nextInt(56);
        for (int tries = 0; text.length() < length && tries < 400; tries++) {
            boolean isTag = text.lastIndexOf("{") > text.lastIndexOf("}");
            text.append(!isTag && random.nextInt(3) > 0 ? '{' : KEYS.charAt(random.nextInt(KEYS.length())));
            Blankform desk = Check.type(Desks.used(), text.toString());
            int fault = desk.fault(false);
            if (fault != -1 && fault < text.length() && random.nextInt(150) > 0) {
                text.setLength(text.length() - 1);
            }
        }
        compare(oracle, text.toString());
    }

    private static void compare(Oracle oracle, String text) {
        Blankform desk = Check.type(Desks.used(), text);
        oracle.say(34, -1, -1, -1, -1, -1);
        for (int k = 0; k < text.length(); k++) {
            oracle.say(KEYS.indexOf(text.charAt(k)), -1, -1, -1, -1, -1);
        }
        Check.due("fault of " + text, desk.fault(false), oracle.fault(false));
        Check.due("line of the fault of " + text, desk.fault(true), oracle.fault(true));
        Check.due("form of " + text, desk.form(0), oracle.form(0));
        if (oracle.fault(false) == -1) {
            for (int what = 0; what <= 10; what++) {
                Check.due("ofForm() " + what + " of " + text, desk.ofForm(0, what), oracle.ofForm(0, what));
            }
        }
    }
}
