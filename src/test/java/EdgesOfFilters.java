import java.util.Arrays;

/** The FILTERS of section 3 of the document, each with what it does to every kind of VALUE; what is ESCAPED. */
final class EdgesOfFilters {

    private static final String[] ALL_BUT_COUNT_AND_DEFAULT = {"0", "1", "4", "5", "6:9", "7", "8:a", "9"};

    private EdgesOfFilters() {
    }

    static void test() {
        Sentence.of("== 3. How a form is filled");
        trim();
        upper();
        count();
        byDefault();
        first();
        last();
        cut();
        turned();
        joined();
        sorted();
        missing();
        escaped();
        unescaped();
    }

    private static void given(Blankform x, String form, String due) {
        Check.due(form + " gives", Check.given(x, form), due);
    }

    /** On a new desk, and on one where others have worked before. */
    private static Blankform[] two() {
        return new Blankform[] {new Blankform(), Desks.used()};
    }

    private static void ofText(String text, String filters, String due) {
        for (Blankform x : two()) {
            Check.text(x, 0, text);
            Check.due("\"" + text + "\" behind " + filters, Check.given(x, "{=a" + filters + "}"), due);
            Check.due("without filters", Check.given(x, "{=a}{b}"), text);
            if (filters.length() == 2) {
                Check.due("filter()", Check.type(x, text).filter(filters.charAt(1) - '0'), due);
            }
        }
    }

    private static void ofNumber(int number, String filters, String due) {
        for (Blankform x : two()) {
            x.number(0, -1, -1, number);
            Check.due(number + " behind " + filters, Check.given(x, "{=a" + filters + "}"), due);
            Check.due("without filters", Check.given(x, "{=a}{b}"), String.valueOf(number));
        }
    }

    private static void ofTruth(boolean is, String filters, String due) {
        for (Blankform x : two()) {
            x.truth(0, -1, -1, is);
            Check.due(is + " behind " + filters, Check.given(x, "{=a" + filters + "}"), due);
        }
    }

    private static void ofRow(String filters, String due, String... texts) {
        for (Blankform x : new Blankform[] {new Blankform(), texts.length > 4 ? new Blankform() : Desks.used()}) {
            Check.row(x, 0, texts);
            Check.due(String.join("+", texts) + " behind " + filters, Check.given(x, "{=a" + filters + "}"), due);
            for (int k = 0; k < 2 && texts.length <= 4; k++) {
                Check.due("without filters", Check.given(x, "{=a}{b}"), String.join("", texts));
            }
        }
    }

    private static void ofMap(String filters, String due) {
        for (Blankform x : two()) {
            x.number(0, 1, -1, 5);
            x.number(0, 4, 1, 5);
            Check.due("a map behind " + filters, Check.given(x, "{=a" + filters + "}"), due);
        }
    }

    private static void trim() {
        Sentence.is("FILTERS: 0 TRIM: WORDS without blanks at both ends.");
        ofText("", "|0", "");
        ofText(" ", "|0", "");
        ofText(" ".repeat(60), "|0", "");
        ofText("a", "|0", "a");
        ofText(" a", "|0", "a");
        ofText("a ", "|0", "a");
        ofText("   a  b ", "|0", "a  b");
        ofText("~ a ~", "|0", "~ a ~");
        ofText(" ~ a ~ ", "|0", "~ a ~");
        ofNumber(-10, "|0", "-10");
        ofTruth(true, "|0", "yes");
        ofRow("|0", "a  b", " a ", " b", " ");
        ofRow("|0|2", "4", " a ", " b", " ");
        ofRow("|0", "");
        ofMap("|0", "");
        ofMap("|0|2", "0");
    }

    private static void upper() {
        Sentence.is("1 UPPER: WORDS with \"A\" to \"F\" for \"a\" to \"f\".");
        ofText("", "|1", "");
        ofText("abcdef", "|1", "ABCDEF");
        ofText("f ~0{<-a", "|1", "F ~0{<-A");
        ofText("a".repeat(60), "|1", "A".repeat(60));
        ofNumber(-10, "|1", "-10");
        ofTruth(true, "|1", "yEs");
        ofTruth(false, "|1", "no");
        ofRow("|1", "ABC", "a", "bc");
        ofRow("|1|4", "A", "ab", "c");
        ofMap("|1|2", "0");
    }

    private static void count() {
        Sentence.is("2 COUNT, a NUMBER: of a ROW how many VALUES, of a MAP how many NAMES, if MISSING 0, otherwise how many signs"
                + " WORDS have.");
        ofText("", "|2", "0");
        ofText("a", "|2", "1");
        ofText("a b~{<}", "|2", "7");
        ofText("a".repeat(60), "|2", "60");
        ofText("a".repeat(60), "|2|2", "2");
        ofNumber(0, "|2", "1");
        ofNumber(-9999, "|2", "5");
        ofTruth(true, "|2", "3");
        ofTruth(false, "|2", "2");
        ofRow("|2", "0");
        ofRow("|2", "1", "abc");
        ofRow("|2", "8", "", "", "", "", "", "", "", "abc");
        ofMap("|2", "2");
        Blankform x = new Blankform();
        x.strict(true);
        given(x, "{a|2}{a.b.c|2}{.|2}{1|2}", "0000");
        x.number(0, 0, -1, 1);
        x.take(0, 0, -1);
        given(x, "{a|2}", "0");
        ofRow("|2|3:a", "0");
        ofRow("|2|4", "2", "a", "b");
    }

    private static void byDefault() {
        Sentence.is("3 DEFAULT: if MISSING or WORDS are \"\", the ARGUMENT (\"\" without one), otherwise as it is.");
        ofText("", "|3:a", "a");
        ofText("", "|3: 0f", " 0f");
        ofText("", "|3", "");
        ofText(" ", "|3:a", " ");
        ofText("b", "|3:a", "b");
        ofNumber(0, "|3:a", "0");
        ofTruth(false, "|3:a", "no");
        ofRow("|3:a", "a");
        ofRow("|3:a", "a", "", "");
        ofRow("|3:a|2", "1", "", "");
        ofRow("|3:a|2", "2", "", "b");
        ofRow("|3:a|2", "2", "b", "");
        ofMap("|3:ab", "ab");
        ofMap("|3|2", "0");
        Blankform x = new Blankform();
        x.strict(true);
        given(x, "{a|3:b c}{a|3}{.|3:d}{a.a.a|3:e}", "b cde");
        given(x, "{a|3:" + "0".repeat(54) + "}", "0".repeat(54));
        given(x, "{a|3:a|3:b}{a|3|3:c}", "ac");
        x.row(0, -1, -1, 0);
        x.row(0, -1, -1, 3);
        x.row(0, -1, -1, 2);
        given(x, "{a|3:a}", "a");
        x.number(0, 1, -1, 1);
        given(x, "{a|3:a}", "a");
    }

    private static void first() {
        Sentence.is("4 FIRST: of a ROW its first VALUE (MISSING without one), otherwise the first sign of WORDS (\"\" without one).");
        ofText("", "|4", "");
        ofText("a", "|4", "a");
        ofText(" ab", "|4", " ");
        ofNumber(-10, "|4", "-");
        ofNumber(90, "|4", "9");
        ofTruth(true, "|4", "y");
        ofRow("|4", "ab", "ab", "cd");
        ofRow("|4|4", "a", "ab", "cd");
        ofRow("|4", "", "");
        ofRow("|4", "", "", "a");
        ofRow("|4", "a", "a");
        ofRow("|4", "");
        ofRow("|4|3:b", "b");
        ofRow("|4|2", "0");
        ofMap("|4", "");
        ofMap("|4|2", "0");
        Blankform x = Desks.WITH_KINDS.get();
        given(x, "{e|4|2}{e|4|3:b}{f.e|4|4|3:c}", "0bc");
        x.strict(true);
        given(x, "{d|4}", "!");
        given(x, "{e|4}{e|4|4}", "");
    }

    private static void last() {
        Sentence.is("5 LAST likewise.");
        ofText("", "|5", "");
        ofText("a", "|5", "a");
        ofText("ba ", "|5", " ");
        ofNumber(-10, "|5", "0");
        ofTruth(true, "|5", "s");
        ofRow("|5", "cd", "ab", "cd");
        ofRow("|5|5", "d", "ab", "cd");
        ofRow("|5", "", "a", "");
        ofRow("|5", "8", "1", "2", "3", "4", "5", "6", "7", "8");
        ofRow("|5", "");
        ofRow("|5|3:b", "b");
        ofMap("|5|2", "0");
        Blankform x = Desks.WITH_KINDS.get();
        given(x, "{e|5}{f.e|5|2}{f.e|5|5|3:c}", "a0c");
        x.strict(true);
        given(x, "{f.d|5}", "!");
        given(x, "{f.e|5|5}", "!");
        given(x, "{f.e|5}{f.e|4|5}", "");
    }

    private static void cut() {
        Sentence.is("6 CUT: so many first signs of WORDS as the first sign of the ARGUMENT tells, if that is a digit (otherwise no"
                + " sign).");
        for (int many = 0; many <= 9; many++) {
            ofText("abcdef0123", "|6:" + many, "abcdef0123".substring(0, many));
        }
        ofText("ab", "|6:2", "ab");
        ofText("ab", "|6:3", "ab");
        ofText("ab", "|6:9", "ab");
        ofText("", "|6:9", "");
        ofText("ab", "|6", "");
        ofText("ab", "|6:a", "");
        ofText("ab", "|6:a9", "");
        ofText("ab", "|6: 9", "");
        ofText("abc", "|6:19", "a");
        ofText("abc", "|6:2a", "ab");
        ofText("abc", "|6:09", "");
        ofNumber(-123, "|6:2", "-1");
        ofTruth(true, "|6:2", "ye");
        ofRow("|6:3", "abc", "ab", "cd");
        ofRow("|6:3|2", "3", "ab", "cd");
        ofRow("|6:3", "");
        ofMap("|6:3|2", "0");
    }

    private static void turned() {
        Sentence.is("7 TURNED: a ROW the other way round, otherwise WORDS the other way round.");
        ofText("", "|7", "");
        ofText("a", "|7", "a");
        ofText("ab", "|7", "ba");
        ofText("abc", "|7", "cba");
        ofText("a".repeat(59) + "b", "|7", "b" + "a".repeat(59));
        ofNumber(-120, "|7", "021-");
        ofTruth(true, "|7", "sey");
        ofRow("|7", "");
        ofRow("|7|2", "0");
        ofRow("|7", "ab", "ab");
        ofRow("|7", "cdab", "ab", "cd");
        ofRow("|7", "efcdab", "ab", "cd", "ef");
        ofRow("|7|8:0", "807060504030201", "1", "2", "3", "4", "5", "6", "7", "8");
        ofRow("|7|4", "cd", "ab", "cd");
        ofRow("|7|7|4", "ab", "ab", "cd");
        ofMap("|7|2", "0");
        Blankform x = new Blankform();
        Check.row(x, 0, "ab", "cd");
        given(x, "{a|7}{a}{#a}{.}{/}", "cdababcdabcd");
    }

    private static void joined() {
        Sentence.is("8 JOINED: of a ROW the WORDS of its VALUES with the ARGUMENT between two (\"\" without one), otherwise WORDS.");
        ofText("", "|8:c", "");
        ofText("ab", "|8:c", "ab");
        ofNumber(-12, "|8:c", "-12");
        ofTruth(true, "|8:c", "yes");
        ofRow("|8:c", "");
        ofRow("|8:c", "ab", "ab");
        ofRow("|8:c", "abcd", "ab", "d");
        ofRow("|8", "abd", "ab", "d");
        ofRow("|8: 0 ", "a 0  0 b", "a", "", "b");
        ofRow("|8:c", "c", "", "");
        ofRow("|8:c|2", "3", "a", "b");
        ofRow("|8:c|2", "0");
        ofRow("|8:0", "a0a0a0a0a0a0a0a", "a", "a", "a", "a", "a", "a", "a", "a");
        ofMap("|8:c", "");
        ofMap("|8:c|2", "0");
        Blankform x = Desks.WITH_KINDS.get();
        given(x, "{e|8:0}{f.e|8:0}", "0a0");
        String[] long8 = new String[8];
        Arrays.fill(long8, "f".repeat(60));
        ofRow("|8:" + "0".repeat(50) + "|2", "830", long8);
        ofRow("|8:" + "1".repeat(48) + "|7|4", "f", long8);
    }

    private static void sorted() {
        Sentence.is("9 SORTED: a ROW by WORDS of its VALUES, the smaller one ahead (sign by sign as in a dictionary, by the order of"
                + " characters as Java compares chars, not of the codes of section 2; what is alike stays as it stood);"
                + " otherwise as it is.");
        ofRow("|9", "");
        ofRow("|9", "b", "b");
        ofRow("|9", "ab", "b", "a");
        ofRow("|9", "ab", "a", "b");
        ofRow("|9|8:0", "0a0aa0ab0b0ba", "b", "ab", "", "aa", "ba", "a");
        ofRow("|9|8:1", "10100110", "10", "0", "", "00");
        ofRow("|9", "12345678", "8", "7", "6", "5", "4", "3", "2", "1");
        ofRow("|9", " !#$*-./", "/", ".", "-", "*", "$", "#", "!", " ");
        ofRow("|9", "09:<=>^a", "a", "^", ">", "=", "<", ":", "9", "0");
        ofRow("|9", "^af{|}~", "~", "}", "|", "{", "f", "a", "^");
        ofRow("|9|4", "a".repeat(60), "b", "a".repeat(60), "aab");
        ofText("ba", "|9", "ba");
        ofNumber(-21, "|9", "-21");
        ofTruth(true, "|9", "yes");
        ofMap("|9|2", "2");
        Blankform x = new Blankform();
        Check.row(x, 0, "a");
        x.row(0, -1, -1, 3);
        x.row(0, -1, -1, 2);
        x.number(0, 1, -1, 1);
        x.row(0, -1, -1, 2);
        x.number(0, 2, -1, 1);
        x.number(0, 3, -1, 1);
        Check.type(x, "").row(0, -1, -1, 1);
        given(x, "{a|9|5}{a|9|4|2}{a|9|7|4|2}", "a01");
        given(x, "{a|7|9|4|2}{a|7|9|5}", "0a");
        x.row(0, -1, -1, 0);
        x.row(0, -1, -1, 2);
        x.number(0, 1, -1, 1);
        x.number(0, 2, -1, 1);
        x.row(0, -1, -1, 3);
        given(x, "{a|9|4|2}{a|9|5|2}{a|7|9|4|2}{a|7|9|5|2}", "2002");
        given(x, "{#a}{.|2}{/}", "20");
    }

    private static void missing() {
        Sentence.is("What is MISSING stays so, but for 2 and 3.");
        Blankform x = new Blankform();
        x.row(1, -1, -1, 0);
        for (String filter : ALL_BUT_COUNT_AND_DEFAULT) {
            x.strict(false);
            given(x, "{a|" + filter + "}{.|" + filter + "}{b|4|" + filter + "}", "");
            given(x, "{a|" + filter + "|3:c}{b|5|" + filter + "|2}", "c0");
            x.strict(true);
            given(x, "{a|" + filter + "}", "!");
            given(x, "{b|4|" + filter + "}", "!");
            given(x, "{b|" + filter + "|3:d}", "d");
        }
        given(x, "{a|2}{a|3:b}{a|3}", "0b");
    }

    private static void escaped() {
        Sentence.is("ESCAPED: each \"{\" as \"<1\", \"}\" as \"<2\", \"<\" as \"<0\".");
        String[][] texts = {{"", ""}, {"{", "<1"}, {"}", "<2"}, {"<", "<0"}, {"a", "a"}, {"<0", "<00"}, {"{}<", "<1<2<0"},
            {"<1<2", "<01<02"}, {"~a <> {b}", "~a <0> <1b<2"}, {"{".repeat(60), "<1".repeat(60)}};
        for (String[] text : texts) {
            Blankform x = new Blankform();
            Check.due("escaped " + text[0], Check.type(x, text[0]).escape(), text[1]);
            x.text(0, -1, -1);
            given(x, "{a}", text[1]);
            given(x, "{=a}", text[0]);
        }
    }

    private static void unescaped() {
        Sentence.is("To unescape: from the left each \"<1\" as \"{\", \"<2\" as \"}\", \"<0\" as \"<\"; any other \"<\" stays.");
        String[][] texts = {{"", ""}, {"<1", "{"}, {"<2", "}"}, {"<0", "<"}, {"<", "<"}, {"<3", "<3"}, {"<9", "<9"}, {"<a", "<a"},
            {"<<", "<<"}, {"<<1", "<{"}, {"<01", "<1"}, {"<00", "<0"}, {"<<0", "<<"}, {"<0<1", "<{"}, {"{}", "{}"}, {"1<", "1<"},
            {"<1".repeat(30), "{".repeat(30)}, {"<".repeat(59) + "1", "<".repeat(58) + "{"}, {"a<0b<1c<2d", "a<b{c}d"}};
        for (String[] text : texts) {
            Check.due("unescaped " + text[0], Check.type(new Blankform(), text[0]).unescape(), text[1]);
        }
    }
}
