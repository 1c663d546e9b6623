/** Section 2 of the document: TYPED, what a FORM text is, where its FAULT is, and what is EATEN. */
final class EdgesOfTyped {

    private static final String KEYS = "abcdef ~{}#^/.|:>!-=$*<0123456789";
    private static final String KEYS_OF_TEXT = "abcdef ~#^/.|:>!-=$*<0123456789";

    private EdgesOfTyped() {
    }

    static void test() {
        Sentence.of("== 2. What is typed");
        signs();
        codes();
        offAgain();
        formTexts();
        tags();
        comments();
        sections();
        elses();
        ends();
        parts();
        blocks();
        supers();
        rawPlaces();
        places();
        paths();
        filters();
        openAtOnce();
        elseInSection();
        faults();
        lines();
        eaten();
    }

    /** The text is a FORM text of so many TEXTS and TAGS. */
    private static void isForm(String text, int count) {
        isForm(new Blankform(), text, count);
        isForm(Desks.used(), text, count);
    }

    private static void isForm(Blankform x, String text, int count) {
        Check.type(x, text);
        Check.due("fault of " + text, x.fault(false), -1);
        Check.due("line of " + text, x.fault(true), -1);
        Check.due("form of " + text, x.form(0), count);
        Check.due("signs of " + text, x.ofForm(0, 7), text.length());
    }

    /** With so many SIGNS of the text a FORM text can begin, and with no more. */
    private static void stops(String text, int fault) {
        stops(text, fault, 0);
    }

    private static void stops(String text, int fault, int line) {
        Blankform x = new Blankform();
        stops(x, text, fault, line);
        Check.due("is there, of " + text, x.ofForm(0, 0), 0);
        x = Desks.used();
        Check.form(x, 0, "a ~{-b}");
        stops(x, text, fault, line);
        Check.due("the form stays as it was, not " + text, x.fill(0), "a");
        Check.due("and so do its signs", x.ofForm(0, 9), 2);
    }

    private static void stops(Blankform x, String text, int fault, int line) {
        Check.type(x, text);
        Check.due("fault of " + text, x.fault(false), fault);
        Check.due("line of " + text, x.fault(true), line);
        Check.due("form of " + text, x.form(0), -1);
        Check.due("wouldGive() of " + text, x.wouldGive(false), -1);
    }

    private static void signs() {
        Sentence.is("TYPED is one text of at most 60 SIGNS, empty at first.");
        Blankform x = new Blankform();
        Check.due("at first", x.typed(), "");
        Check.due("its length", x.house(3), 0);
        for (int length = 1; length <= 60; length++) {
            Check.due("sign " + length, x.say(length % 33, -1, -1, -1, -1, -1), length);
        }
        String full = x.typed();
        Check.due("full", full.length(), 60);
        Check.due("sign 61", Whole.thrown(x, y -> y.say(0, -1, -1, -1, -1, -1)), IllegalStateException.class);
        Check.due("it stays", x.typed(), full);
        Check.due("one off, one on", x.say(33, 0, -1, -1, -1, -1), 60);
        Check.due("the last one is new", x.typed(), full.substring(0, 59) + "a");
    }

    private static void codes() {
        Sentence.is("Codes: 0 to 5 \"a\" to \"f\", 6 \" \", 7 \"~\" (the line end), 8 \"{\", 9 \"}\", 10 \"#\", 11 \"^\", 12 \"/\","
                + " 13 \".\", 14 \"|\", 15 \":\", 16 \">\", 17 \"!\", 18 \"-\", 19 \"=\", 20 \"$\", 21 \"*\", 22 \"<\","
                + " 23 to 32 \"0\" to \"9\";");
        for (int code = 0; code <= 32; code++) {
            Blankform x = new Blankform();
            Check.due("code " + code, x.say(code, -1, -1, -1, -1, -1), 1);
            Check.due("its sign", x.typed(), String.valueOf(KEYS.charAt(code)));
            Check.due("at any place", x.say(-1, 34, -1, -1, -1, code), 1);
            Check.due("its sign again", x.typed(), String.valueOf(KEYS.charAt(code)));
        }
    }

    private static void offAgain() {
        Sentence.is("33 takes the last SIGN off (if there is one), 34 all.");
        Blankform x = new Blankform();
        Check.due("33 of nothing", x.say(33, -1, -1, -1, -1, -1), 0);
        Check.due("34 of nothing", x.say(34, -1, -1, -1, -1, -1), 0);
        Check.due("33 six times", x.say(33, 33, 33, 33, 33, 33), 0);
        Check.due("33 of one", x.say(0, 33, -1, -1, -1, -1), 0);
        Check.due("33 of two", x.say(0, 1, 33, -1, -1, -1), 1);
        Check.due("the first one stays", x.typed(), "a");
        Check.due("34 of one", x.say(34, -1, -1, -1, -1, -1), 0);
        Check.type(x, "b".repeat(60));
        Check.due("33 of 60", x.say(33, -1, -1, -1, -1, -1), 59);
        Check.due("34 of 59", x.say(34, -1, -1, -1, -1, -1), 0);
        Check.due("nothing is left", x.typed(), "");
    }

    private static void formTexts() {
        Sentence.is("A FORM text is made of TEXTS (SIGNS other than \"{\" and \"}\", as many as stand side by side) and TAGS"
                + " (the empty text is one, too).");
        isForm("", 0);
        isForm("a", 1);
        isForm(KEYS_OF_TEXT, 1);
        isForm("a".repeat(60), 1);
        for (char sign : KEYS_OF_TEXT.toCharArray()) {
            isForm(String.valueOf(sign), 1);
        }
        isForm("{!}", 1);
        isForm("{!}{!}", 2);
        isForm("a{!}", 2);
        isForm("{!}a", 2);
        isForm("a{!}a", 3);
        isForm("{!}".repeat(20), 20);
        isForm("~{.}".repeat(15), 30);
        isForm("{.}~".repeat(15), 30);
        stops("}", 0);
        stops("a}", 1);
        stops("{!}}", 3);
        stops("a".repeat(59) + "}", 59);
        longForms();
    }

    /** Two FORMS of 30 pieces may be joined to one of 60 (a TEXT in between makes it 59). */
    private static void longForms() {
        Blankform x = new Blankform();
        Check.form(x, 0, "~{!}".repeat(15));
        Check.form(x, 1, "{!}~".repeat(15));
        Check.due("60 pieces", x.joined(0, 0), "~".repeat(30));
        Check.due("60 pieces, too", x.joined(0, 1), "~".repeat(30));
        Check.due("59 pieces", x.joined(1, 0), "~".repeat(30));
    }

    private static void tags() {
        Sentence.is("A TAG: \"{\", then \"-\" or not (it EATS ahead), then one of these, then \"-\" or not (it EATS behind),"
                + " then \"}\":");
        String[] kinds = {"!", "!a", "#a", "#a.b.c", "#.", "^", "/", ">f", "$f", "*", "=a", "=2|0", "a", "f.f.f", ".", "0", "1",
            "2", "a|0", "a|3:b", "b|1|2|8:0 "};
        for (String kind : kinds) {
            eats(kind, "", "", 0);
            eats(kind, "-", "", 2);
            eats(kind, "", "-", 3);
            eats(kind, "-", "-", 5);
        }
        stops("{", 1);
        stops("{-", 2);
        stops("{--", 2);
        stops("{}", 1);
        stops("{-}", 2);
        stops("{{", 1);
        stops("{ a}", 1);
        stops("{~a}", 1);
        stops("{<}", 1);
        stops("{|0}", 1);
        stops("{:}", 1);
        stops("{a--}", 3);
        stops("{a-a}", 3);
        stops("{a-|0}", 3);
        stops("{a-{", 3);
        stops("{a{", 2);
        stops("{--a}", 2);
        stops("{#-a}", 2);
        stops("{=-a}", 2);
        stops("{>-a}", 2);
    }

    private static void eats(String kind, String ahead, String behind, int eaten) {
        eats(new Blankform(), kind, ahead, behind, eaten);
        eats(Desks.used(), kind, ahead, behind, eaten);
    }

    private static void eats(Blankform x, String kind, String ahead, String behind, int eaten) {
        boolean opens = kind.startsWith("#") || kind.startsWith("$");
        String begin = kind.equals("^") || kind.equals("/") ? "{#a}" : "";
        String end = opens || kind.equals("^") ? "{/}" : "";
        String text = begin + "b ~{" + ahead + kind + behind + "} ~ b" + end;
        Check.due(text, Check.form(x, 0, text), 3 + (begin.length() + end.length()) / 3);
        Check.due("eaten of " + text, x.ofForm(0, 9), eaten);
    }

    private static void comments() {
        Sentence.is("\"!\" and any SIGNS but \"{\" and \"}\", or none (a COMMENT; a \"-\" as the last one, or as the only one,"
                + " EATS behind);");
        isForm("{!}", 1);
        isForm("{!" + KEYS_OF_TEXT + "}", 1);
        isForm("{!" + "a".repeat(57) + "}", 1);
        for (char sign : KEYS_OF_TEXT.toCharArray()) {
            isForm("{!" + sign + "}", 1);
        }
        stops("{!", 2);
        stops("{!a", 3);
        stops("{!{", 2);
        stops("{!a{", 3);
        stops("{!}}", 3);
        eatenOf("{!} ", 0);
        eatenOf("{!-} ", 1);
        eatenOf("{!a-} ", 1);
        eatenOf("{!--} ", 1);
        eatenOf("{!-a} ", 0);
        eatenOf("{!- } ", 0);
        eatenOf("{!-a-} ", 1);
        eatenOf(" {-!} ", 1);
        eatenOf(" {-!-} ", 2);
        eatenOf(" {!--} ", 1);
    }

    private static void eatenOf(String text, int eaten) {
        eatenOf(new Blankform(), text, eaten);
        eatenOf(Desks.used(), text, eaten);
    }

    private static void eatenOf(Blankform x, String text, int eaten) {
        Check.due("is a form: " + text, Check.form(x, 0, text) >= 0, true);
        Check.due("eaten of " + text, x.ofForm(0, 9), eaten);
        Check.due("signs of " + text, x.ofForm(0, 7), text.length());
    }

    private static void sections() {
        Sentence.is("\"#\" PATH (a SECTION begins);");
        isForm("{#a}{/}", 2);
        isForm("{#a.b.c}b{/}", 3);
        isForm("{#.}{#0}{#1}{#2}{/}{/}{/}{/}", 8);
        stops("{#", 2);
        stops("{#}", 2);
        stops("{##", 2);
        stops("{#3", 2);
        stops("{#!", 2);
        stops("{#a", 3);
        stops("{#a|", 3);
        stops("{#.|", 3);
        stops("{#a}", 4);
        stops("{#a}b", 5);
    }

    private static void elses() {
        Sentence.is("\"^\" (of the SECTIONS that are open the ELSE of the one that began last begins; once for each SECTION);");
        isForm("{#a}{^}{/}", 3);
        isForm("{#a}b{^}c{/}", 5);
        isForm("{#a}{#b}{^}{/}{^}{/}", 6);
        isForm("{#a}{^}{#b}{^}{/}{/}", 6);
        isForm("{#a}{^}{/}{#b}{^}{/}", 6);
        stops("{^", 1);
        stops("{-^", 2);
        stops("a{^}", 2);
        stops("{#a}{/}{^", 8);
        stops("{#a}{^}{^", 8);
        stops("{#a}{^}{-^", 9);
        stops("{#a}{#b}{^}{^", 12);
        stops("{#a}{#b}{^}{/}{^}{^", 18);
        stops("{#a}{^}{#b}{/}{^", 15);
        Blankform x = new Blankform();
        x.truth(0, -1, -1, true);
        Check.due("the else of the inner one", Check.given(x, "{#a}b{#f}{^}c{/}d{/}"), "bcd");
        Check.due("of the outer one, as the inner one has ended", Check.given(x, "{#f}{#a}{/}b{^}c{/}"), "c");
    }

    private static void ends() {
        Sentence.is("\"/\" (of the SECTIONS and BLOCKS that are open the one that began last ends);");
        isForm("{#a}{/}", 2);
        isForm("{$a}{/}", 2);
        isForm("{#a}{$a}{/}{/}", 4);
        isForm("{$a}{#a}{/}{/}", 4);
        stops("{/", 1);
        stops("{-/", 2);
        stops("{#a}{/}{/", 8);
        stops("{$a}{/}{/", 8);
        stops("{$a}{#a}{/}", 11);
        stops("{/a", 1);
        stops("{#a}{/a", 6);
        Blankform x = new Blankform();
        x.truth(0, -1, -1, true);
        Check.due("the section ends first", Check.given(x, "{$a}{#f}b{/}c{/}d"), "cd");
        Check.due("the block ends first", Check.given(x, "{#f}{$a}b{/}c{/}d"), "d");
    }

    private static void parts() {
        Sentence.is("\">\" letter (a PART);");
        for (char letter = 'a'; letter <= 'f'; letter++) {
            isForm("{>" + letter + "}", 1);
        }
        isForm("{>a}{>a}", 2);
        stops("{>", 2);
        stops("{>}", 2);
        stops("{>0", 2);
        stops("{>.", 2);
        stops("{> ", 2);
        stops("{>a", 3);
        stops("{>ab", 3);
        stops("{>a.", 3);
        stops("{>a|", 3);
    }

    private static void blocks() {
        Sentence.is("\"$\" letter (a BLOCK begins; no letter for two BLOCKS of one FORM);");
        for (char letter = 'a'; letter <= 'f'; letter++) {
            isForm("{$" + letter + "}{/}", 2);
        }
        String six = "{$a}{/}{$b}{/}{$c}{/}{$d}{/}{$e}{/}{$f}{/}";
        isForm(six, 12);
        isForm("{$a}{>a}{/}{>a}", 4);
        stops("{$", 2);
        stops("{$}", 2);
        stops("{$0", 2);
        stops("{$.", 2);
        stops("{$a", 3);
        stops("{$a}", 4);
        stops("{$ab", 3);
        stops("{$a|", 3);
        stops("{$a}{/}{$a", 9);
        stops("{$a}{/}{$a}{/}", 9);
        stops("{$a}{$a", 6);
        stops("{$a}{$b}{/}{/}{$b", 16);
        stops("{$a}{/}{$", 9);
        stops(six + "{$", 43);
        stops(six + "{-$", 44);
        stops(six + "{", 43);
        stops(six.substring(0, 35) + "{$f", 38);
        Blankform x = new Blankform();
        Check.due("one form", Check.form(x, 0, "{$a}{/}"), 2);
        Check.due("another form with that letter", Check.form(x, 1, "{$a}{/}"), 2);
        Check.due("both in one", x.joined(0, 1), "!");
    }

    private static void supers() {
        Sentence.is("\"*\" (SUPER);");
        isForm("{*}", 1);
        isForm("{-*-}{*}", 2);
        stops("{*", 2);
        stops("{*a", 2);
        stops("{**", 2);
        stops("{*|", 2);
    }

    private static void rawPlaces() {
        Sentence.is("\"=\" PATH FILTERS (a RAW place);");
        isForm("{=a}", 1);
        isForm("{=a.b.c|0|1|2|3:a}", 1);
        isForm("{=.}{=0}{=1}{=2|2}", 4);
        stops("{=", 2);
        stops("{=}", 2);
        stops("{==", 2);
        stops("{=#", 2);
        stops("{=3", 2);
        stops("{=|", 2);
        stops("{=a", 3);
        stops("{=a|", 4);
    }

    private static void places() {
        Sentence.is("PATH FILTERS (a place).");
        isForm("{a}", 1);
        isForm("{a.b.c|0|1|2|3:a}", 1);
        isForm("{.|2}{0|2}{1}{2}", 4);
        stops("{a", 2);
        stops("{3", 1);
        stops("{9", 1);
        stops("{a=", 2);
        stops("{a ", 2);
        stops("{a|9:9}}", 7);
    }

    private static void paths() {
        Sentence.is("Here a PATH is one to three letters \"a\" to \"f\" with \".\" between; or \".\" alone; or \"0\", \"1\" or \"2\""
                + " alone.");
        for (String begin : new String[] {"{", "{=", "{-", "{#", "{-#"}) {
            String end = begin.endsWith("#") ? "{/}" : "";
            int count = begin.endsWith("#") ? 2 : 1;
            int at = begin.length();
            for (String path : new String[] {"a", "f", "a.b", "f.f", "a.b.c", "f.f.f", ".", "0", "1", "2"}) {
                isForm(begin + path + "}" + end, count);
            }
            stops(begin + "a.", at + 2);
            stops(begin + "a.}", at + 2);
            stops(begin + "a..", at + 2);
            stops(begin + "a.0", at + 2);
            stops(begin + "a.-", at + 2);
            stops(begin + "ab", at + 1);
            stops(begin + "a0", at + 1);
            stops(begin + "a.b.", at + 4);
            stops(begin + "a.bc", at + 3);
            stops(begin + "a.b.c.", at + 5);
            stops(begin + "a.b.c.d}", at + 5);
            stops(begin + "..", at + 1);
            stops(begin + ".a", at + 1);
            stops(begin + ".0", at + 1);
            stops(begin + "00", at + 1);
            stops(begin + "0.", at + 1);
            stops(begin + "1a", at + 1);
            stops(begin + "2.a", at + 1);
            for (char digit = '3'; digit <= '9'; digit++) {
                stops(begin + digit, at);
            }
        }
    }

    private static void filters() {
        Sentence.is("FILTERS: none, or up to 4, each \"|\", a digit, and, if one likes, \":\" and an ARGUMENT (one or more of"
                + " letters, digits and blanks).");
        for (char digit = '0'; digit <= '9'; digit++) {
            isForm("{a|" + digit + "}", 1);
            isForm("{=.|" + digit + ":" + digit + "}", 1);
        }
        for (char sign : KEYS.toCharArray()) {
            if (Character.isLetterOrDigit(sign) || sign == ' ') {
                isForm("{a|3:" + sign + "}", 1);
                isForm("{a|3:" + sign + sign + "}", 1);
            } else {
                stops("{a|3:" + sign, 5);
                boolean endsArgument = sign == '-' || sign == '|' || sign == '}';
                stops("{a|3:a" + sign + (sign == '}' ? "}" : ""), endsArgument ? 7 : 6);
            }
        }
        isForm("{a}", 1);
        isForm("{a|0|1}", 1);
        isForm("{a|0|1|2}", 1);
        isForm("{a|0|1|2|3}", 1);
        isForm("{a|0:a|1:b|2:c|3:d-}", 1);
        isForm("{a|3:" + "0".repeat(54) + "}", 1);
        stops("{a|0|1|2|3|", 10);
        stops("{a|0|1|2|3|4}", 10);
        stops("{a|0:a|1:b|2:c|3:d|", 18);
        stops("{a|0|0|0|0|0", 10);
        stops("{a|", 3);
        stops("{a|a", 3);
        stops("{a||", 3);
        stops("{a|}", 3);
        stops("{a|-", 3);
        stops("{a|00", 4);
        stops("{a|0a", 4);
        stops("{a|0 ", 4);
        stops("{a|0.", 4);
        stops("{a|0:", 5);
        stops("{a|0:|", 5);
        stops("{a:", 2);
        stops("{>a|0", 3);
        stops("{$a|0", 3);
        stops("{*|0", 2);
    }

    private static void openAtOnce() {
        Sentence.is("At most 4 SECTIONS and BLOCKS are open at once; each one that began ends;");
        for (String four : new String[] {"{#a}{#b}{#c}{#d}", "{$a}{$b}{$c}{$d}", "{#a}{$a}{#a}{$b}", "{$a}{#.}{$b}{#0}"}) {
            isForm(four + "{/}{/}{/}{/}", 8);
            isForm(four + "a{b}{>c}{*}{!}{/}{/}{/}{/}", 13);
            isForm(four + "{/}{#f}{/}{/}{/}{/}", 10);
            isForm(four + "{/}{/}{$e}{$f}{/}{/}{/}{/}", 12);
            stops(four, 16);
            stops(four + "{#", 17);
            stops(four + "{-#", 18);
            stops(four + "{$", 17);
            stops(four + "{-$", 18);
            stops(four + "{/}{/}{/}", 25);
            stops(four + "{/}{#f}{#", 24);
        }
        isForm("{#a}{/}{#a}{/}{#a}{/}{#a}{/}{#a}{/}{#a}{/}", 12);
        isForm("{#a}{#b}{^}{#c}{^}{#d}{/}{/}{/}{/}", 10);
        stops("{#a}", 4);
        stops("{$a}", 4);
        stops("{#a}{^}", 7);
        stops("{#a}{$b}{/}", 11);
    }

    private static void elseInSection() {
        Sentence.is("\"^\" stands in a SECTION, not in a BLOCK that began in it and has not ended.");
        isForm("{#a}{$b}{/}{^}{/}", 5);
        isForm("{#a}{^}{$b}{/}{/}", 5);
        isForm("{$a}{#b}{^}{/}{/}", 5);
        isForm("{#a}{$b}{#c}{^}{/}{/}{^}{/}", 8);
        stops("{#a}{$b}{^", 9);
        stops("{#a}{$b}{-^", 10);
        stops("{$a}{^", 5);
        stops("{#a}{$b}{#c}{/}{^", 16);
        stops("{#a}{^}{$b}{^", 12);
    }

    private static void faults() {
        Sentence.is("FAULT of TYPED: how many SIGNS the longest text has with which TYPED begins, and with which some FORM text,"
                + " of any length, begins, too (so all of them, if just the end is missing; otherwise those ahead of the first"
                + " SIGN with which no FORM text can go on); NONE, if TYPED is one.");
        isForm("", 0);
        isForm("a".repeat(60), 1);
        stops("}", 0);
        stops("}{a}", 0);
        stops("a{b}}{", 4);
        stops("a".repeat(59) + "{", 60);
        stops("{#a}{#a}{#a}{#a}" + "a".repeat(44), 60);
        stops("{!" + "a".repeat(58), 60);
        stops("{a|3:" + "a".repeat(55), 60);
        stops("{!" + "a".repeat(57) + "{", 59);
        stops("a".repeat(57) + "{a|", 60);
        stops("a".repeat(57) + "{$a", 60);
        eachKeyInTexts();
        eachKeyInPaths();
        eachKeyInFilters();
    }

    /** Just these keys can stand behind the text, in some FORM text. */
    private static void goesOn(String text, String keys) {
        for (char key : KEYS.toCharArray()) {
            int fault = Check.type(Desks.used(), text + key).fault(false);
            boolean isKey = keys.indexOf(key) >= 0;
            Check.due("\"" + key + "\" is refused behind " + text, fault == text.length(), !isKey);
            Check.due("what is ahead of it is not", fault < 0 || fault >= text.length(), true);
        }
    }

    private static void eachKeyInTexts() {
        for (String text : new String[] {"", "a", "~ ", "{!}", "{!}a", "{#a}", "{#a}{^}", "{$a}{#.}{$b}{#0}", "a{b}"}) {
            goesOn(text, KEYS_OF_TEXT + "{");
        }
        for (String text : new String[] {"{!", "{!a", "{!-", "{-!", "{-!#|"}) {
            goesOn(text, KEYS_OF_TEXT + "}");
        }
        String begin = "abcdef.012!>*=";
        goesOn("{", begin + "#$-");
        goesOn("{-", begin + "#$");
        goesOn("{#a}{", begin + "#$-^/");
        goesOn("{#a}{^}{", begin + "#$-/");
        goesOn("{#a}{^}{-", begin + "#$/");
        goesOn("{$a}{", begin + "#$-/");
        goesOn("{#a}{$b}{", begin + "#$-/");
        goesOn("{#a}{$b}{/}{", begin + "#$-^/");
        goesOn("{$a}{#b}{-", begin + "#$^/");
        goesOn("{#a}{#b}{#c}{#d}{", begin + "-^/");
        goesOn("{#a}{#b}{#c}{$d}{", begin + "-/");
        goesOn("{$a}{/}{$b}{/}{$c}{/}{$d}{/}{$e}{/}{$f}{/}{", begin + "#-");
        goesOn("{$a}{/}{$b}{/}{$d}{/}{$e}{/}{$", "cf");
    }

    private static void eachKeyInPaths() {
        for (String text : new String[] {"{#", "{=", "{-#", "{-="}) {
            goesOn(text, "abcdef.012");
        }
        for (String text : new String[] {"{>", "{$", "{->", "{-$", "{a.", "{a.b.", "{#a.", "{#a.b.", "{=a.", "{-=f.f."}) {
            goesOn(text, "abcdef");
        }
        for (String text : new String[] {"{>a", "{$f", "{*", "{#a}{^", "{#a}{/", "{#a}{-/", "{#.", "{#0", "{#2", "{#a.b.c"}) {
            goesOn(text, "-}");
        }
        for (String text : new String[] {"{#a", "{#f.f", "{-#a"}) {
            goesOn(text, ".-}");
        }
        for (String text : new String[] {"{a", "{=f", "{a.b", "{-f.f"}) {
            goesOn(text, ".|-}");
        }
        for (String text : new String[] {"{.", "{0", "{=1", "{-2", "{a.b.c", "{=f.f.f"}) {
            goesOn(text, "|-}");
        }
        for (String text : new String[] {"{a-", "{-a-", "{#a-", "{>a-", "{*-", "{.|0-", "{.|0:a-", "{#a}{/-"}) {
            goesOn(text, "}");
        }
    }

    private static void eachKeyInFilters() {
        String digits = "0123456789";
        String ofArgument = "abcdef " + digits;
        for (String text : new String[] {"{a|", "{=.|", "{a|0|", "{a|0|1|2|", "{a|3:a|", "{a.b.c|"}) {
            goesOn(text, digits);
        }
        for (String text : new String[] {"{a|0", "{a|9", "{=.|5", "{a|0|1|2", "{a|0:a|3"}) {
            goesOn(text, ":|-}");
        }
        goesOn("{a|0|1|2|3", ":-}");
        for (String text : new String[] {"{a|0:", "{=.|9:", "{a|0|1|2|3:"}) {
            goesOn(text, ofArgument);
        }
        for (String text : new String[] {"{a|0:a", "{a|0: ", "{a|0:00", "{a|0:b|1|2:c"}) {
            goesOn(text, ofArgument + "|-}");
        }
        goesOn("{a|0|1|2|3:b", ofArgument + "-}");
    }

    private static void lines() {
        Sentence.is("Its LINE: how many \"~\" are among these SIGNS.");
        stops("}", 0, 0);
        stops("}~", 0, 0);
        stops("~}", 1, 1);
        stops("~}~", 1, 1);
        stops("~~}~", 2, 2);
        stops("a~{!~~", 6, 3);
        stops("{~", 1, 0);
        stops("~{", 2, 1);
        stops("~".repeat(59) + "}", 59, 59);
        stops("~".repeat(59) + "{", 60, 59);
        stops("{!" + "~".repeat(58), 60, 58);
        isForm("~~~", 1);
    }

    private static void eaten() {
        Sentence.is("A TAG that EATS ahead takes off all blanks and \"~\" at the end of the TEXT that was typed right ahead of it"
                + " (if there is one), one that EATS behind those at the beginning of the TEXT that was typed right behind it"
                + " (these SIGNS are EATEN, each once).");
        given("a {-!}", "a", 1);
        given("a ~ ~{-!}", "a", 4);
        given(" a{-!}", " a", 0);
        given(" a {-!} b", " a b", 1);
        given("{-!} b", " b", 0);
        given("{!-} ~b ", "b ", 2);
        given("{!-}b ", "b ", 0);
        given(" {!-}", " ", 0);
        given("{-!}{-!-}", "", 0);
        given(" ~ {-!}", "", 3);
        given("{!-} ~ ", "", 3);
        given("{!-} ~ {-!}", "", 3);
        given("{!-} a ~{-!}", "a", 3);
        given(" {!}{-!} ", "  ", 0);
        given(" {-!}{!} ", " ", 1);
        given(" {!-}{!} ", "  ", 0);
        given(" {-!-} {-!-} ", "", 3);
        given("a~b {-!-}~c d", "a~bc d", 2);
        given("~".repeat(28) + "{-!-}" + " ".repeat(27), "", 55);
        given(".{-!-}-", ".-", 0);
        Blankform x = new Blankform();
        Check.form(x, 0, "{!-} ~ {-!}");
        Check.due("a text that was eaten whole is counted", x.ofForm(0, 1), 3);
        Check.text(x, 0, " ~a~ ");
        Check.due("what is filled is not eaten", Check.given(x, " {-=a-} "), " ~a~ ");
    }

    private static void given(String form, String due, int eaten) {
        given(new Blankform(), form, due, eaten);
        given(Desks.used(), form, due, eaten);
    }

    private static void given(Blankform x, String form, String due, int eaten) {
        Check.due(form + " gives", Check.given(x, form), due);
        Check.due("eaten of " + form, x.ofForm(5, 9), eaten);
    }
}
