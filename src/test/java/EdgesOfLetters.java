import java.util.ArrayList;
import java.util.List;

/** Section 4 of the document: LETTERS, what two of them have in common, and BACK. */
final class EdgesOfLetters {

    private EdgesOfLetters() {
    }

    static void test() {
        Sentence.of("== 4. Letters");
        letters();
        shared();
        signsFirst();
        past();
        gaps();
        noSign();
        back();
        Sentence.needsNone("The constructor and the methods follow, a promise each: the signature, then what it does.",
                "the document tells of itself");
    }

    /** LETTERS are kept of RAW places, so that they can have any signs. */
    private static Blankform kept(String... texts) {
        Blankform x = new Blankform();
        for (String text : texts) {
            StringBuilder form = new StringBuilder();
            for (int at = 0; at < text.length(); at += 60) {
                Check.type(x, text.substring(at, Math.min(at + 60, text.length()))).text(at / 60, -1, -1);
                form.append("{=").append("abcd".charAt(at / 60)).append('}');
            }
            Check.form(x, 0, form.toString());
            x.keep(0);
        }
        return x;
    }

    private static void compared(String one, String other, String back, int common, int gaps, int past) {
        Blankform x = kept(one, other);
        String of = " of " + one + " and " + other;
        Check.due("the letters", x.letter(0) + "+" + x.letter(1), one + "+" + other);
        Check.due("back" + of, x.back(0, 1), back);
        Check.due("common" + of, x.common(0, 1, 0), common);
        Check.due("gaps" + of, x.common(0, 1, 1), gaps);
        Check.due("gone past" + of, x.common(0, 1, 2), past);
    }

    private static void letters() {
        Sentence.is("LETTERS, numbered from 0, at most 8, are what filled FORMS gave.");
        Blankform x = kept("a", "", "b", "{<}~", "c", "d", "e", "f");
        Check.due("all eight", x.house(1), 8);
        Check.due("the first", x.letter(0), "a");
        Check.due("the second", x.letter(1), "");
        Check.due("the fourth", x.letter(3), "{<}~");
        Check.due("the eighth", x.letter(7), "f");
        Check.due("a ninth", Whole.thrown(x, y -> y.keep(0)), IllegalStateException.class);
        Check.due("letter(8)", Whole.thrown(x, y -> y.letter(8)), IndexOutOfBoundsException.class);
        Check.due("still eight", x.house(1), 8);
        Check.due("a long one", kept("abc~".repeat(50)).letter(0), "abc~".repeat(50));
    }

    private static void shared() {
        Sentence.is("BACK of two: COMMON is a longest row of signs that is in both, in their order:");
        compared("abc", "abc", "abc", 3, 0, 0);
        compared("acbd", "abcd", "a{}b{}d", 3, 2, 2);
        compared("abcabc", "cab", "{}cab{}", 3, 2, 3);
        compared("abcdef", "fedcba", "{}f{}", 1, 2, 10);
        compared("ab".repeat(100), "ab".repeat(100), "ab".repeat(100), 200, 0, 0);
        compared("a".repeat(200), "a".repeat(199), "a".repeat(199) + "{}", 199, 1, 1);
        compared("0" + "a".repeat(199), "a".repeat(200), "{}" + "a".repeat(199) + "{}", 199, 2, 2);
        compared("a".repeat(200), "0" + "a".repeat(199), "{}" + "a".repeat(199), 199, 1, 2);
        shortLetters();
    }

    /** All pairs of LETTERS of up to four signs "a" and "b"; the sentences are followed sign by sign. */
    private static void shortLetters() {
        List<String> all = new ArrayList<>(List.of(""));
        for (int k = 0; all.get(k).length() < 4; k++) {
            all.add(all.get(k) + "a");
            all.add(all.get(k) + "b");
        }
        for (String one : all) {
            for (String other : all) {
                StringBuilder back = new StringBuilder();
                int common = longest(one, other);
                followed(one, other, back, false);
                int gaps = (back.length() - common) / 2;
                compared(one, other, back.toString(), common, gaps, one.length() + other.length() - 2 * common);
            }
        }
    }

    /** How long a row of signs can be that is in both, tried with each sign of the first LETTER left out or not. */
    private static int longest(String one, String other) {
        if (one.isEmpty()) {
            return 0;
        }
        int without = longest(one.substring(1), other);
        int at = other.indexOf(one.charAt(0));
        return at < 0 ? without : Math.max(without, 1 + longest(one.substring(1), other.substring(at + 1)));
    }

    private static void followed(String one, String other, StringBuilder back, boolean isInGap) {
        if (one.isEmpty() && other.isEmpty()) {
            return;
        }
        if (!one.isEmpty() && !other.isEmpty() && one.charAt(0) == other.charAt(0)) {
            back.append(one.charAt(0));
            followed(one.substring(1), other.substring(1), back, false);
            return;
        }
        back.append(isInGap ? "" : "{}");
        boolean isOfFirst = !one.isEmpty() && longest(one.substring(1), other) == longest(one, other);
        followed(isOfFirst ? one.substring(1) : one, isOfFirst ? other : other.substring(1), back, true);
    }

    private static void signsFirst() {
        Sentence.is("from the beginning of both on, with two that are alike both are taken;");
        compared("aab", "ab", "a{}b", 2, 1, 1);
        compared("ab", "aab", "a{}b", 2, 1, 1);
        compared("aaa", "a", "a{}", 1, 1, 2);
        compared("a", "aaa", "a{}", 1, 1, 2);
        compared("abab", "ab", "ab{}", 2, 1, 2);
        compared("0a0", "0b0", "0{}0", 2, 1, 2);
    }

    private static void past() {
        Sentence.is("otherwise one goes past the sign of the first LETTER, if of what is left then a row as long as can be is in"
                + " both, otherwise past that of the second one.");
        compared("ab", "ba", "{}b{}", 1, 2, 2);
        compared("ba", "ab", "{}a{}", 1, 2, 2);
        compared("abc", "cab", "{}ab{}", 2, 2, 2);
        compared("cab", "abc", "{}ab{}", 2, 2, 2);
        compared("012", "201", "{}01{}", 2, 2, 2);
        compared("abcd", "badc", "{}b{}d{}", 2, 3, 4);
        compared("badc", "abcd", "{}a{}c{}", 2, 3, 4);
        compared("0a1b", "a0b1", "{}a{}b{}", 2, 3, 4);
    }

    private static void gaps() {
        Sentence.is("Between two signs of COMMON that follow one another, ahead of the first and behind the last there is one GAP"
                + " each, where signs of either LETTER were gone past (up to the ends of both);");
        compared("ab", "a1b", "a{}b", 2, 1, 1);
        compared("a1b", "ab", "a{}b", 2, 1, 1);
        compared("a1b", "a2b", "a{}b", 2, 1, 2);
        compared("a123b", "a45b", "a{}b", 2, 1, 5);
        compared("a", "1a", "{}a", 1, 1, 1);
        compared("1a", "a", "{}a", 1, 1, 1);
        compared("12a", "3a", "{}a", 1, 1, 3);
        compared("a", "a1", "a{}", 1, 1, 1);
        compared("a1", "a", "a{}", 1, 1, 1);
        compared("a1", "a23", "a{}", 1, 1, 3);
        compared("1a2", "3a4", "{}a{}", 1, 2, 4);
        compared("a0".repeat(100), "1a".repeat(100), "{}" + "a{}".repeat(100), 100, 101, 200);
        compared("a0".repeat(100), "a1".repeat(100), "a{}".repeat(100), 100, 100, 200);
        compared("0aa".repeat(66) + "0a", "a1a".repeat(66) + "a1", "{}a".repeat(133) + "{}", 133, 134, 134);
    }

    private static void noSign() {
        Sentence.is("if COMMON has no sign, there is one GAP in all, if any sign was gone past.");
        compared("", "", "", 0, 0, 0);
        compared("a", "", "{}", 0, 1, 1);
        compared("", "a", "{}", 0, 1, 1);
        compared("a", "b", "{}", 0, 1, 2);
        compared("abc", "012", "{}", 0, 1, 6);
        compared("a".repeat(200), "b".repeat(200), "{}", 0, 1, 400);
        compared("a".repeat(200), "", "{}", 0, 1, 200);
        compared("", "b".repeat(200), "{}", 0, 1, 200);
    }

    private static void back() {
        Sentence.is("BACK: the signs of COMMON, and \"{}\" for each GAP.");
        compared("{", "{", "{", 1, 0, 0);
        compared("{}", "{}", "{}", 2, 0, 0);
        compared("{a}", "{b}", "{{}}", 2, 1, 2);
        compared("a~ b", "a~0b", "a~{}b", 3, 1, 2);
        Blankform x = kept("ab", "cab", "ba");
        for (int letter = 0; letter < 3; letter++) {
            Check.due("of one and the same", x.back(letter, letter), x.letter(letter));
            Check.due("its gaps", x.common(letter, letter, 1), 0);
        }
        Check.due("the first, the third", x.back(0, 2), "{}b{}");
        Check.due("the third, the first", x.back(2, 0), "{}a{}");
        Check.due("the second, the first", x.back(1, 0), "{}ab");
    }
}
