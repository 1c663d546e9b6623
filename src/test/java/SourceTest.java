import java.nio.file.Files;
import java.nio.file.Path;
import java.util.ArrayDeque;
import java.util.Deque;
import java.util.regex.Matcher;
import java.util.regex.Pattern;

/** What LANGUAGE.md rules out and can be seen from the signs of the source. It is run from the project's directory. */
public final class SourceTest {

    private static final String[] NOT_THERE = {"->", "::", "\\bcatch\\b", "\\btry\\b", "\\bfinally\\b", "\\bsynchronized\\b",
        "\\bassert\\b", "\\bpackage\\b", "\\bprotected\\b", "\\bvolatile\\b", "\\bnative\\b", "\\bthread", "\\bThread\\b",
        "\\bRandom\\b", "currentTimeMillis", "nanoTime", "\\bRuntime\\b", "hashCode", "\\bequals\\b", "toString",
        "String\\s*\\[", "\\bMap<", "\\bSet<", "\\bvar\\b", "\\bObject\\b", "\\bhashCode\\b", "String\\.", "\\.format\\b",
        "\\w+Exact\\b", "static\\s*\\{", "\\binstanceof\\b", "\\brecord\\b", "\\byield\\b", "\\[\\s*\\]\\s*\\[\\s*\\]\\s*\\["};

    private SourceTest() {
    }

    public static void main(String[] args) throws Exception {
        String source = Files.readString(Path.of("src/main/java/Blankform.java"));
        Check.due("all signs are 1 to 127", source.chars().allMatch(sign -> sign > 0 && sign < 128), true);
        String code = withoutComments(source);
        Check.due("an import is there", Pattern.compile("\\bimport\\b").matcher(code).find(), false);
        for (String word : NOT_THERE) {
            Check.due("the word " + word + " is there", Pattern.compile(word).matcher(code).find(), false);
        }
        throwsOnlyItsOwn(code);
        methodsAreShort(code);
        Check.end("SourceTest");
    }

    /** Comments and what stands in texts and signs is left out. */
    private static String withoutComments(String source) {
        String code = source.replaceAll("(?s)/\\*.*?\\*/", "").replaceAll("(?m)^\\s*//.*$", "");
        return code.replaceAll("\"[^\"\\n]*\"", "\"\"").replaceAll("'[^'\\n]'", "' '");
    }

    private static void throwsOnlyItsOwn(String code) {
        Matcher thrown = Pattern.compile("throw ([^;]*);").matcher(code);
        int found = 0;
        while (thrown.find()) {
            found++;
            Check.due("thrown is " + thrown.group(1), thrown.group(1).matches(
                    "new (IllegalArgumentException|IllegalStateException|IndexOutOfBoundsException)\\(\"\"\\)"), true);
        }
        Check.due("something is thrown", found > 0, true);
    }

    /** A method is a block whose brace stands behind "(..)" or "throws ..": at most some sixty lines. */
    private static void methodsAreShort(String code) {
        Deque<Integer> began = new ArrayDeque<>();
        String[] lines = code.split("\n");
        for (int k = 0; k < lines.length; k++) {
            for (char sign : lines[k].toCharArray()) {
                if (sign == '{') {
                    began.push(lines[k].contains(" class ") ? -1 : k);
                } else if (sign == '}') {
                    int from = began.pop();
                    Check.due("the block of line " + (from + 1) + " is short", from == -1 || k - from < 60, true);
                }
            }
        }
        Check.due("all blocks end", began.isEmpty(), true);
    }
}
