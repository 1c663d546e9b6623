import java.nio.file.Files;
import java.nio.file.Path;
import java.util.Set;
import java.util.TreeSet;

/**
 * Which sentence of ../shared/DOC.md is tested now. A sentence that is quoted must stand in the part of
 * the document that was named, at least one check must follow it, and in the end there must be nothing
 * left in the parts that nobody quoted.
 */
final class Sentence {

    private static final Path FILE = Path.of("../shared/DOC.md");
    private static final String TEXT = read();
    private static final boolean[] SAID = new boolean[TEXT.length()];
    private static final Set<String> PARTS = new TreeSet<>();

    private static String part = "";
    private static int from;
    private static int to;
    private static String now = "";
    private static int checksBefore;

    private Sentence() {
    }

    private static String read() {
        try {
            return Files.exists(FILE) ? Files.readString(FILE) : "";
        } catch (java.io.IOException e) {
            return "";
        }
    }

    static boolean isDocumentThere() {
        return !TEXT.isEmpty();
    }

    /** From now on sentences are quoted from the part of the document that begins with this line. */
    static void of(String heading) {
        finish();
        part = heading;
        now = "";
        if (!isDocumentThere()) {
            return;
        }
        from = ("\n" + TEXT).indexOf("\n" + heading);
        Check.due("the document has the part " + heading, from >= 0, true);
        int begin = Math.max(from, 0) + heading.length();
        int promise = ("\n" + TEXT).indexOf("\n## ", begin);
        int section = ("\n" + TEXT).indexOf("\n== ", begin);
        to = promise < 0 ? TEXT.length() : promise;
        to = section >= 0 && section < to ? section : to;
        PARTS.add(heading);
    }

    /** What is checked from now on is told by this sentence. */
    static void is(String sentence) {
        finish();
        now = sentence;
        checksBefore = Check.checked();
        say(sentence);
    }

    /** A sentence that needs no check of its own, and why not. */
    static void needsNone(String sentence, String why) {
        finish();
        now = "";
        say(sentence);
    }

    private static void say(String sentence) {
        if (!isDocumentThere()) {
            return;
        }
        int at = TEXT.indexOf(sentence, from);
        boolean isThere = at >= from && at + sentence.length() <= to;
        while (isThere && SAID[at] && TEXT.indexOf(sentence, at + 1) >= 0
                && TEXT.indexOf(sentence, at + 1) + sentence.length() <= to) {
            at = TEXT.indexOf(sentence, at + 1);
        }
        if (!isThere) {
            Check.due("\"" + sentence + "\" stands in " + part, false, true);
            return;
        }
        for (int k = at; k < at + sentence.length(); k++) {
            SAID[k] = true;
        }
    }

    private static void finish() {
        if (!now.isEmpty() && Check.checked() == checksBefore) {
            Check.due("something is checked of \"" + now + "\"", false, true);
        }
    }

    /** The sentence of now, to be put ahead of what a check tells. */
    static String ahead() {
        return part.isEmpty() ? "" : "[" + part + (now.isEmpty() ? "" : ": " + now) + "] ";
    }

    /** All parts were named, and all that stands in them was quoted. */
    static void end() {
        finish();
        part = "";
        now = "";
        if (!isDocumentThere()) {
            System.out.println("no document at " + FILE + ", so that no sentence was looked up");
            return;
        }
        boolean isOfUse = false;
        int begin = 0;
        for (String line : TEXT.split("\n", -1)) {
            if (line.startsWith("## ") || line.startsWith("== ")) {
                isOfUse = !line.equals("## What it is") && !line.equals("## The public face")
                        && !line.equals("## Not promised");
                Check.due("the part " + line + " was tested", !isOfUse || isNamed(line), true);
            } else if (isOfUse && !line.startsWith("`") && !line.startsWith("----")) {
                Check.due("what nobody quoted", unsaid(begin, begin + line.length()), "");
            }
            begin += line.length() + 1;
        }
    }

    private static boolean isNamed(String line) {
        for (String each : PARTS) {
            if (line.startsWith(each)) {
                return true;
            }
        }
        return false;
    }

    private static String unsaid(int begin, int end) {
        StringBuilder left = new StringBuilder();
        boolean hasWords = false;
        for (int k = begin; k < end; k++) {
            char sign = TEXT.charAt(k);
            left.append(SAID[k] ? '_' : sign);
            hasWords |= !SAID[k] && Character.isLetterOrDigit(sign);
        }
        return hasWords ? left.toString().replaceAll("_+", "_") : "";
    }
}
