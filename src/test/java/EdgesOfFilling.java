/** Section 3 of the document, but for its FILTERS: how a FORM is filled, and how that fails. */
final class EdgesOfFilling {

    private static final String[] COUNTS = {"failure", "looked for", "missing", "rounds", "parts", "blocks", "most open",
        "length"};

    private EdgesOfFilling() {
    }

    static void test() {
        Sentence.of("== 3. How a form is filled");
        forms();
        scopes();
        texts();
        places();
        missing();
        paths();
        items();
        rowSections();
        mapSections();
        otherSections();
        elses();
        parts();
        chains();
        blocks();
        supers();
        innermostBlock();
        tooDeep();
        tooMuch();
        goesAhead();
        firstFailure();
        notOpen();
        asks();
    }

    private static void given(Blankform x, String form, String due) {
        Check.due(form + " gives", Check.given(x, form), due);
    }

    /** FAILURE, VALUES looked for, MISSING ones, ROUNDS, PARTS, BLOCKS, most open, length. */
    static void counted(Blankform x, int form, String why, int... due) {
        for (int what = 0; what <= 7; what++) {
            Check.due(why + ": " + COUNTS[what], x.filling(form, what), due[what]);
        }
        Check.due(why + ": fails", x.fill(form).equals("!"), due[0] != 0);
    }

    /** "a" a TEXT, "b" a NUMBER, "c" yes, "d" a ROW of TEXTS, "e" a MAP of "a" and of "b" with "c"; no "f". */
    private static Blankform data() {
        Blankform x = new Blankform();
        Check.text(x, 0, "<{0}>");
        x.number(1, -1, -1, -12);
        x.truth(2, -1, -1, true);
        Check.row(x, 3, "c", "a", "b");
        Check.type(x, "f").text(4, 0, -1);
        x.number(4, 1, 2, 7);
        return x;
    }

    private static void forms() {
        Sentence.is("FORMS: 0 to 5 (\"a\" to \"f\"), none is there at first; each may have a PARENT.");
        Blankform x = new Blankform();
        Check.due("none at first", x.house(0), 0);
        for (int form = 0; form <= 5; form++) {
            Check.due("not there", x.ofForm(form, 0), 0);
            Check.due("without a parent", x.ofForm(form, 6), -1);
        }
        for (int form = 0; form <= 5; form++) {
            Check.form(x, form, "{$a}" + form + "{/}");
            Check.due("how many", x.house(0), form + 1);
        }
        for (int form = 0; form < 5; form++) {
            Check.due("before", x.heir(form, form + 1), -1);
            Check.due("its parent", x.ofForm(form, 6), form + 1);
        }
        Check.due("all in one chain", x.ofForm(0, 10), 6);
        Check.due("as parts", Check.type(x, "{>a}{>b}{>c}{>d}{>e}{>f}").wouldGive(true), 6);
    }

    private static void scopes() {
        Sentence.is("SCOPES, the innermost one first: DATA is the outermost. Filled is piece by piece:");
        Blankform x = data();
        given(x, "{a}{#e}{a}{#b}{a}{c}{/}{a}{/}{=a|4}", "<0<10<2>ff7f<");
        given(x, "{#e.b}{a}{/}", "<0<10<2>");
        given(x, "1{b}2{!0}3{#c}4{/}5", "1-122345");
    }

    private static void texts() {
        Sentence.is("TEXT: itself. COMMENT: nothing.");
        Blankform x = data();
        given(x, "", "");
        given(x, "~<0 b#^/.|:>!-=$*~", "~<0 b#^/.|:>!-=$*~");
        given(x, "{!}{!abc}{!-}{-!a|0:b}", "");
        counted(x, 5, "comments", 0, 0, 0, 0, 0, 0, 0, 0);
    }

    private static void places() {
        Sentence.is("Place: the VALUE of its PATH, changed by its FILTERS, one behind the other; then its WORDS, ESCAPED; of a RAW"
                + " place as they are.");
        Blankform x = data();
        given(x, "{a}", "<0<10<2>");
        given(x, "{=a}", "<{0}>");
        given(x, "{b}{=b}{c}{=c}", "-12-12yesyes");
        given(x, "{d}{=d}{e}{=e}", "cabcab");
        given(x, "{a|7}{=a|7}", "><20<1<0>}0{<");
        given(x, "{d|9|4|1}{d|4|9|1}{d|1|4}", "ACC");
        given(x, "{b|7|6:2|7}{b|2|7|2}", "121");
        given(x, "{a|2}{a|4|2}", "51");
        Check.text(x, 0, "");
        given(x, "{a}{=a}", "");
    }

    private static void missing() {
        Sentence.is("If behind the FILTERS there is no VALUE (MISSING): nothing, but in STRICT it fails (FAILURE 1).");
        Blankform x = data();
        x.row(5, -1, -1, 0);
        String[] none = {"{e.f}", "{=e.f}", "{f|4}", "{=f|5}", "{.}", "{0}", "{a.a}", "{f|9|4|0}",
            "{e.f|0|1|7}"};
        for (String form : none) {
            x.strict(false);
            given(x, form, "");
            x.strict(true);
            given(x, form, "!");
            Check.due("failure of " + form, x.filling(5, 0), 1);
        }
        for (String form : new String[] {"{e.f|2}", "{e.f|3}", "{f}", "{f|4|3}", "{f|7}", "{e.f|0|3}", "{e}", "{e|0}"}) {
            given(x, form, form.equals("{e.f|2}") ? "0" : "");
            Check.due("failure of " + form, x.filling(5, 0), 0);
        }
    }

    private static void paths() {
        Sentence.is("VALUE of a PATH: its first NAME is looked for in the MAPS of the SCOPES, from the innermost one on; in the"
                + " first that has it its VALUE; for each further NAME the VALUE that this has, if it is a MAP, otherwise it is"
                + " MISSING.");
        Blankform x = data();
        given(x, "{e.a}{e.b.c}", "f7");
        given(x, "{e.b}{e.c}{e.b.a}{e.a.a}{a.a}{b.a}{c.a}{d.a}{f.a}{f.a.a}", "");
        counted(x, 5, "a map, and nine that are missing", 0, 10, 9, 0, 0, 0, 0, 0);
        x.take(1, -1, -1);
        x.number(1, 0, -1, 3);
        given(x, "{b.a}{#e}{b.a}{b.c}{/}", "37");
        x.row(5, -1, -1, 0);
        x.row(5, -1, -1, 2);
        x.number(5, 0, -1, 4);
        Check.due("a path in data steps through a row", x.words(5, 0, -1), "4");
        given(x, "{f.a}{#f}{a}{/}", "4");
        counted(x, 5, "a path in a form does not", 0, 3, 1, 1, 0, 0, 1, 1);
        x.truth(5, 4, -1, true);
        given(x, "{#f}{e}{e.a}{/}{e.a}", "yesf");
        x.row(5, -1, -1, 2);
        given(x, "{#f}{e}{e.a}{/}", "yesf");
    }

    private static void items() {
        Sentence.is("\".\": the ITEM of the innermost SCOPE that has one; \"0\" its ROUND (a NUMBER), \"1\" its FIRST, \"2\" its"
                + " LAST (TRUTHS); MISSING without one.");
        Blankform x = data();
        given(x, "{.}{0}{1}{2}", "");
        counted(x, 5, "without one", 0, 4, 4, 0, 0, 0, 0, 0);
        given(x, "{#d}{#d}{#e}{a}{/}{/}{/}", "fffffffff");
        given(x, "{.}{0}{1}{2}{=a}{f}", "<{0}>");
        given(x, "{#e}{.}{0}{1}{2}{/}{#a}{.}{0}{/}", "");
        given(x, "{#d}{0}{.}{1}{2} {/}", "0cyesno 1anono 2bnoyes ");
        given(x, "{#d}{#e}{.}{0}{/}{#c}{.}{/}{/}", "c0ca1ab2b");
        given(x, "{#d}{#d}{0}{/}{0}{.} {/}", "0120c 0121a 0122b ");
        Check.row(x, 3, "e");
        given(x, "{#d}{0}{1}{2}{#0}a{^}b{/}{#1}c{/}{#2}d{/}{/}", "0yesyesbcd");
        Check.row(x, 3, "", "", "", "", "", "", "", "");
        given(x, "{#d}{0}{/}{.}", "01234567");
        given(x, "{#d}{#0}{0}{^}-{/}{/}", "-1234567");
        given(x, "{#d}{#1}{0}{/}{#2}{0}{/}{/}", "07");
        given(x, "{#d}{0|2}{1|4}{2|5}{/}", "1yo" + "1no".repeat(6) + "1ns");
    }

    private static void rowSections() {
        Sentence.is("SECTION: if the VALUE of its PATH is a ROW: for each VALUE in it what is ahead of ELSE, with a new SCOPE: ITEM"
                + " that VALUE, MAP it, too, if it is one (otherwise an empty one), ROUND 0, 1 and so on, FIRST and LAST whether"
                + " it is that.");
        Blankform x = data();
        given(x, "{#d}-{/}{#d}{^}-{/}{#d}0{^}1{/}", "---000");
        counted(x, 5, "nine rounds", 0, 3, 0, 9, 0, 0, 1, 6);
        Check.row(x, 3, "a");
        given(x, "{#d}-{/}", "-");
        Check.row(x, 3, "", "", "", "", "", "", "", "");
        given(x, "{#d}-{^}:{/}", "--------");
        x.row(3, -1, -1, 0);
        x.row(3, -1, -1, 2);
        x.number(3, 0, -1, 1);
        x.row(3, -1, -1, 3);
        x.row(3, -1, -1, 2);
        x.number(3, 1, -1, 2);
        Check.type(x, "e").row(3, -1, -1, 1);
        given(x, "{#d}{=a}{b} {/}", "1-12 <{0}>-12 <{0}>2 <{0}>-12 ");
        given(x, "{#d}{.|2}{#.}{a|2}{^}-{/} {/}", "11 0- 15 15 ");
    }

    private static void mapSections() {
        Sentence.is("If it is a MAP with NAMES: what is ahead of ELSE once, with a SCOPE of that MAP without ITEM.");
        Blankform x = data();
        given(x, "{#e}{a}{b.c}{c}{^}-{/}", "f7yes");
        counted(x, 5, "once", 0, 4, 0, 0, 0, 0, 1, 5);
        given(x, "{#e.b}{c}{^}-{/}", "7");
        given(x, "{#d}{#e}{.}{a}{/}{/}", "cfafbf");
        given(x, "{#e}{.}{0}{1}{2}{/}", "");
        x.take(4, 0, -1);
        x.take(4, 1, -1);
        given(x, "{#e}{a}{^}-{/}{#e}a{/}", "-");
    }

    private static void otherSections() {
        Sentence.is("If it is a TEXT with signs, a NUMBER other than 0, or the TRUTH yes: that once, without a new SCOPE.");
        Blankform x = data();
        for (String text : new String[] {"a", " ", "~", "0", "a".repeat(60)}) {
            Check.text(x, 0, text);
            given(x, "{#a}-{^}:{/}", "-");
        }
        for (int number : new int[] {1, -1, 9999, -9999, 10}) {
            x.number(1, -1, -1, number);
            given(x, "{#b}-{^}:{/}", "-");
        }
        given(x, "{#c}-{^}:{/}", "-");
        given(x, "{#c}{.}{0}{/}", "");
        given(x, "{#d}{#b}{.}{#c}{0}{/}{/}{/}", "c0a1b2");
        counted(x, 5, "no rounds of these", 0, 13, 0, 3, 0, 0, 3, 6);
    }

    private static void elses() {
        Sentence.is("Otherwise, and of an empty ROW: what is behind ELSE (nothing without one).");
        Blankform x = new Blankform();
        Check.text(x, 0, "");
        x.number(1, -1, -1, 0);
        x.truth(2, -1, -1, false);
        x.row(3, -1, -1, 0);
        x.number(4, 0, -1, 1);
        x.take(4, 0, -1);
        for (String path : new String[] {"a", "b", "c", "d", "e", "f", "a.b", "d.a", "e.a", ".", "0", "1", "2"}) {
            given(x, "{#" + path + "}a{^}{.}b{/}", "b");
            given(x, "{#" + path + "}a{^}{/}", "");
            given(x, "{#" + path + "}a{/}", "");
        }
        Check.due("one of data is e, empty", x.ofData(4, -1, -1, 0), 5);
        x.strict(true);
        given(x, "{#f}a{^}b{/}{#f}a{/}", "b");
        Check.row(x, 3, "", "a");
        given(x, "{#d}{#.}{.}{^}{0}{/}{/}", "0a");
    }

    private static void parts() {
        Sentence.is("PART: that FORM is filled, in the SCOPES as they are; if it is not there, nothing, but in STRICT FAILURE 1.");
        Blankform x = data();
        Check.form(x, 0, ":{a}{.}!");
        given(x, "{>a}{#e}{>a}{/}{#d}{>a}{/}", ":<0<10<2>!:f!:<0<10<2>c!:<0<10<2>a!:<0<10<2>b!");
        Check.form(x, 0, "");
        given(x, "a{>a}b", "ab");
        counted(x, 5, "an empty one", 0, 0, 0, 0, 1, 0, 1, 2);
        given(x, "a{>b}b", "ab");
        counted(x, 5, "one that is not there", 0, 0, 0, 0, 0, 0, 0, 2);
        x.strict(true);
        given(x, "a{>b}b", "!");
        counted(x, 5, "in strict", 1, 0, 0, 0, 0, 0, 0, -1);
        given(x, "{#f}{>b}{/}{#c}{^}{>b}{/}", "");
        given(x, "{>a}", "");
    }

    private static void chains() {
        Sentence.is("CHAIN of a FORM that is filled: itself, its PARENT, the PARENT of that, and so on. Filled are the pieces of the"
                + " last one of the CHAIN.");
        Blankform x = new Blankform();
        for (int form = 0; form <= 5; form++) {
            Check.form(x, form, String.valueOf(form));
        }
        Check.due("alone", x.fill(0), "0");
        for (int form = 0; form < 5; form++) {
            x.heir(form, form + 1);
            Check.due("of a chain of " + (form + 2), x.fill(0), String.valueOf(form + 1));
        }
        Check.due("the last one itself", x.fill(5), "5");
        x.lone(3);
        Check.due("a chain that was cut", x.fill(0), "3");
        Check.due("behind the cut", x.fill(4), "5");
        Check.due("as a part", Check.type(x, "{>a}{>e}").wouldGive(false), 2);
    }

    private static void blocks() {
        Sentence.is("BLOCK: what is in the BLOCK of that letter of the first one of the CHAIN that has one.");
        Blankform x = new Blankform();
        Check.form(x, 0, "{$b}0{/}");
        Check.form(x, 1, "{$a}1{/}");
        Check.form(x, 2, "{$a}2{/}{$b}2{/}{$c}2{/}");
        Check.form(x, 3, "{$c}3{/}");
        x.heir(0, 1);
        x.heir(1, 2);
        x.heir(3, 2);
        Check.due("of three", x.fill(0), "102");
        Check.due("of two", x.fill(1), "122");
        Check.due("of one", x.fill(2), "222");
        Check.due("of another heir", x.fill(3), "223");
        Check.form(x, 0, "{$a}{/}");
        Check.due("an empty one", x.fill(0), "22");
        counted(x, 0, "an empty one counts", 0, 0, 0, 0, 0, 3, 1, 2);
        Check.form(x, 0, "{$d}0{/}");
        Check.due("one that nobody asks for", x.fill(0), "122");
        Check.form(x, 0, "{#f}{$a}0{$e}{/}{/}{/}{$b}-{/}");
        Check.due("one in a section of the heir", x.fill(0), "0-2");
        Check.form(x, 2, "{$a}{$b}2{/}{/}");
        Check.due("a block in one that is replaced", x.fill(0), "0");
        Check.form(x, 0, "{$b}0{/}");
        x.lone(0);
        x.heir(0, 2);
        Check.due("a block in one that is not", x.fill(0), "0");
        counted(x, 0, "both are open", 0, 0, 0, 0, 0, 2, 2, 1);
    }

    private static void supers() {
        Sentence.is("SUPER: in a BLOCK that comes from some one of the CHAIN, what is in the BLOCK of that letter of the next one"
                + " behind it in the CHAIN that has one; otherwise nothing.");
        Blankform x = new Blankform();
        Check.form(x, 0, "{$a}0{*}{/}");
        Check.form(x, 1, "");
        Check.form(x, 2, "{$a}2{*}{/}");
        Check.form(x, 3, "{$a}3{*}{/}{*}");
        Check.due("without a parent", x.fill(0), "0");
        counted(x, 0, "without a parent", 0, 0, 0, 0, 0, 1, 1, 1);
        x.heir(0, 1);
        x.heir(1, 2);
        x.heir(2, 3);
        Check.due("over one without a block", x.fill(0), "023");
        counted(x, 0, "three deep", 0, 0, 0, 0, 0, 3, 3, 3);
        Check.due("from the second one on", x.fill(1), "23");
        Check.due("of the last one alone", x.fill(3), "3");
        Check.form(x, 2, "{$b}2{*}{/}");
        Check.due("over two without a block", x.fill(0), "03");
        Check.form(x, 3, "{$b}{$a}3{/}{/}");
        Check.due("the next one's block", x.fill(0), "2" + "03");
        Check.form(x, 0, "{$a}{*}{*}{/}");
        Check.due("twice", x.fill(0), "233");
        Check.form(x, 3, "{$a}{/}");
        Check.due("an empty one", x.fill(0), "");
        counted(x, 0, "empty ones count", 0, 0, 0, 0, 0, 3, 2, 0);
        Check.form(x, 3, "a{*}b");
        Check.due("in no block", x.fill(0), "ab");
    }

    private static void innermostBlock() {
        Sentence.is("(The innermost BLOCK that is open in this FORM counts; a PART has its own CHAIN and no BLOCK open.)");
        Blankform x = new Blankform();
        Check.form(x, 0, "{$a}0{$b}1{*}{/}{*}{/}");
        Check.form(x, 1, "{$a}2{/}{$b}3{/}");
        x.heir(0, 1);
        Check.due("b inside a", x.fill(0), "013" + "2" + "13");
        Check.form(x, 0, "{$a}0{#c}{*}{/}{/}");
        x.truth(2, -1, -1, true);
        Check.due("through a section", x.fill(0), "023");
        Check.form(x, 0, "{$a}0{>c}{/}");
        Check.form(x, 2, "{*}4{$a}5{*}{/}");
        Check.due("not from around a part", x.fill(0), "0453");
        Check.form(x, 3, "{$a}6{*}{/}");
        x.heir(3, 2);
        Check.form(x, 0, "{$a}0{>d}{*}{/}");
        Check.due("a part's own chain", x.fill(0), "0465" + "2" + "3");
        Check.form(x, 2, "{$a}5{$b}7{/}{/}");
        Check.due("the other's blocks don't count", x.fill(0), "0657" + "2" + "3");
    }

    /** Around what is in the FORM "d" eight SECTIONS and two PARTS are open when "b" is filled. */
    private static Blankform deep(String innermost) {
        Blankform x = new Blankform();
        x.truth(0, -1, -1, true);
        Check.form(x, 1, "{#a}{#a}{#a}{#a}{>c}{/}{/}{/}{/}");
        Check.form(x, 2, "{#a}{#a}{#a}{#a}{>d}{/}{/}{/}{/}");
        Check.form(x, 3, innermost);
        Check.row(x, 3, "b");
        x.row(4, -1, -1, 0);
        return x;
    }

    private static void tooDeep() {
        Sentence.is("It fails with FAILURE 2, if more than 10 SECTIONS (or their ELSES), PARTS, BLOCKS and SUPERS would be open, one"
                + " in another;");
        Blankform x = deep("b");
        counted(x, 1, "10 are open", 0, 8, 0, 0, 2, 0, 10, 1);
        counted(x, 2, "5 are open", 0, 4, 0, 0, 1, 0, 5, 1);
        counted(deep("{#a}{/}"), 1, "a section", 2, 9, 0, 0, 2, 0, 10, -1);
        counted(deep("{#d}{/}"), 1, "a section over a row", 2, 9, 0, 0, 2, 0, 10, -1);
        counted(deep("{#f}{^}{/}"), 1, "an else", 2, 9, 1, 0, 2, 0, 10, -1);
        counted(deep("{#e}b{^}{/}"), 1, "an else of an empty row", 2, 9, 0, 0, 2, 0, 10, -1);
        counted(deep("{$a}{/}"), 1, "a block", 2, 8, 0, 0, 2, 0, 10, -1);
        x = deep("{>e}");
        Check.form(x, 4, "");
        counted(x, 1, "a part", 2, 8, 0, 0, 2, 0, 10, -1);
        counted(x, 2, "a part as the 6th", 0, 4, 0, 0, 2, 0, 6, 0);
        x = deep("b");
        Check.form(x, 4, "{#a}{#a}{#a}{$a}{>d}{/}{/}{/}{/}");
        Check.form(x, 2, "{$a}{*}{/}");
        x.heir(2, 4);
        counted(x, 1, "a super, and a part behind it", 2, 7, 0, 0, 1, 2, 10, -1);
        Check.form(x, 4, "{#a}{#a}{#a}{$a}b{/}{/}{/}{/}");
        counted(x, 1, "a super as the 10th", 0, 7, 0, 0, 1, 2, 10, 1);
        Check.form(x, 1, "{#a}{#a}{#a}{#a}{>d}{/}{/}{/}{/}");
        Check.form(x, 3, "{>c}");
        counted(x, 1, "a super as the 11th", 2, 7, 0, 0, 2, 1, 10, -1);
        Check.form(x, 0, "{>a}");
        counted(x, 0, "a part of itself", 2, 0, 0, 0, 10, 0, 10, -1);
        Check.form(x, 0, "{#a}a{/}".repeat(7));
        counted(x, 0, "one behind the other", 0, 7, 0, 0, 0, 0, 1, 7);
    }

    private static Blankform rows(int one, int other, int third) {
        Blankform x = new Blankform();
        int[] counts = {one, other, third};
        for (int name = 0; name < 3; name++) {
            x.row(name, -1, -1, 0);
            for (int k = 0; k < counts[name]; k++) {
                x.row(name, -1, -1, 1);
            }
        }
        x.truth(3, -1, -1, true);
        x.number(4, 0, -1, 1);
        return x;
    }

    private static void tooMuch() {
        Sentence.is("with FAILURE 3, if the letter would be longer than 200 signs, or as the 61st ROUND of all (over ROWS alone), or"
                + " the 61st of all PARTS, BLOCKS and SUPERS that are there, would begin");
        tooLong();
        tooManyRounds();
        tooManyParts();
    }

    private static void tooLong() {
        Blankform x = new Blankform();
        Check.text(x, 0, "b".repeat(50));
        Check.form(x, 0, "{a}{a}{a}{a}");
        Check.due("200 signs", x.fill(0), "b".repeat(200));
        counted(x, 0, "200 signs", 0, 4, 0, 0, 0, 0, 0, 200);
        Check.form(x, 0, "{a}{a}{a}{a}{!c}{b}{#b}c{/}{#b}{^}{/}");
        counted(x, 0, "200 signs, and nothing behind these", 0, 7, 3, 0, 0, 0, 1, 200);
        Check.form(x, 0, "{a}{a}{a}{a}c");
        counted(x, 0, "a text as the 201st", 3, 4, 0, 0, 0, 0, 0, -1);
        Check.form(x, 0, "{a}{a}{a}c{a}{a}");
        counted(x, 0, "a place as the 201st", 3, 4, 0, 0, 0, 0, 0, -1);
        Check.form(x, 0, "{a}{a}{a}{=a}{=a|4}");
        counted(x, 0, "a raw place as the 201st", 3, 5, 0, 0, 0, 0, 0, -1);
        Check.form(x, 0, "{a}{a}{a}{a|6:9}" + "0".repeat(41));
        counted(x, 0, "a text up to 200", 0, 4, 0, 0, 0, 0, 0, 200);
        Check.text(x, 1, "<".repeat(50));
        Check.form(x, 0, "{b}{b}");
        Check.due("200 signs, escaped", x.fill(0), "<0".repeat(100));
        Check.form(x, 0, "c{b}{b}");
        counted(x, 0, "half of an escaped one", 3, 2, 0, 0, 0, 0, 0, -1);
        Check.form(x, 0, "{=b}{=b}{=b}{=b}");
        counted(x, 0, "raw ones are shorter", 0, 4, 0, 0, 0, 0, 0, 200);
        Check.row(x, 2, "c".repeat(60), "c".repeat(60), "c".repeat(60), "c".repeat(20));
        Check.form(x, 0, "{c}");
        counted(x, 0, "a row of 200 signs", 0, 1, 0, 0, 0, 0, 0, 200);
        Check.form(x, 0, "{c|8:0}");
        counted(x, 0, "a row of 203 signs", 3, 1, 0, 0, 0, 0, 0, -1);
        Check.form(x, 0, "{c|8:0|6:9}");
        counted(x, 0, "what the filters leave counts", 0, 1, 0, 0, 0, 0, 0, 9);
    }

    private static void tooManyRounds() {
        Blankform x = rows(8, 6, 4);
        Check.form(x, 0, "{#a}{#b}{/}{/}{#c}{/}");
        counted(x, 0, "60 rounds", 0, 10, 0, 60, 0, 0, 2, 0);
        Check.form(x, 0, "{#a}{#b}{/}{/}{#c}{/}{#d}-{/}{#e}-{/}{#f}{^}-{/}");
        counted(x, 0, "other sections", 0, 13, 1, 60, 0, 0, 2, 3);
        Check.form(x, 0, "{#a}{#b}{/}{/}{#c}-{/}{#c}-{/}");
        counted(x, 0, "the 61st as a first one", 3, 11, 0, 60, 0, 0, 2, -1);
        x = rows(8, 6, 5);
        Check.form(x, 0, "{#a}{#b}{/}{/}{#c}{a}{/}");
        counted(x, 0, "the 61st as a last one", 3, 14, 0, 60, 0, 0, 2, -1);
        x = rows(8, 8, 0);
        Check.form(x, 0, "{#a}{#b}-{/}{/}");
        counted(x, 0, "the 61st inside", 3, 8, 0, 60, 0, 0, 2, -1);
        Check.form(x, 0, "{#a}{#b}{/}{/}{#c}{/}");
        x.row(1, -1, -1, 0);
        counted(x, 0, "empty rows have none", 0, 10, 0, 8, 0, 0, 1, 0);
    }

    private static void tooManyParts() {
        Blankform x = new Blankform();
        Check.form(x, 0, "{>b}{>b}{>b}{>b}");
        Check.form(x, 1, "");
        String twelve = "{>a}".repeat(12);
        Check.form(x, 2, twelve);
        counted(x, 2, "60 parts", 0, 0, 0, 0, 60, 0, 2, 0);
        Check.form(x, 2, twelve + "{>e}{*}a");
        counted(x, 2, "what is not there", 0, 0, 0, 0, 60, 0, 2, 1);
        Check.form(x, 2, twelve + "{>b}");
        counted(x, 2, "a part as the 61st", 3, 0, 0, 0, 60, 0, 2, -1);
        Check.form(x, 2, twelve + "{$a}{/}");
        counted(x, 2, "a block as the 61st", 3, 0, 0, 0, 60, 0, 2, -1);
        Check.form(x, 2, twelve + "{$a}{*}{/}");
        counted(x, 2, "a block around a super as the 61st", 3, 0, 0, 0, 60, 0, 2, -1);
        String eleven = "{>a}".repeat(11);
        Check.form(x, 2, eleven + "{$a}{/}");
        Check.form(x, 3, "{$a}{>b}{>b}{*}{*}{/}");
        x.heir(3, 2);
        counted(x, 3, "57 parts, a block and two supers", 0, 0, 0, 0, 57, 3, 2, 0);
        Check.form(x, 3, "{$a}{>b}{>b}{>b}{*}{*}{/}");
        counted(x, 3, "a super as the 61st", 3, 0, 0, 0, 58, 2, 2, -1);
        Check.form(x, 3, "{$a}{>b}{>b}{>b}{*}{>b}{/}");
        counted(x, 3, "a part behind a super as the 61st", 3, 0, 0, 0, 58, 2, 2, -1);
        x = rows(8, 8, 1);
        Check.form(x, 0, "{#a}{$a}{/}{/}{#b}{>b}{/}");
        Check.form(x, 1, "{$a}{$b}{/}{/}");
        counted(x, 0, "blocks in rounds count each time", 0, 2, 0, 16, 8, 24, 4, 0);
    }

    private static void goesAhead() {
        Sentence.is("(that goes ahead of FAILURE 2; what fails is neither open nor counted, nor is a SECTION open whose first ROUND"
                + " can't begin).");
        Blankform x = rows(8, 6, 4);
        Check.form(x, 0, "{#a}{#b}{/}{/}{#c}{/}{#d}{#d}{#d}{#d}{>b}{/}{/}{/}{/}");
        Check.form(x, 1, "{#d}{#d}{#d}{#d}{>c}{/}{/}{/}{/}");
        Check.form(x, 2, "{#c}{/}");
        counted(x, 0, "the 61st round, and too deep", 3, 19, 0, 60, 2, 0, 10, -1);
        Check.form(x, 2, "{#d}{/}");
        counted(x, 0, "just too deep", 2, 19, 0, 60, 2, 0, 10, -1);
        x = rows(8, 6, 3);
        Check.form(x, 0, "{#a}{#b}{/}{/}{#c}{/}{#d}{#d}{#d}{#d}{>b}{/}{/}{/}{/}");
        Check.form(x, 1, "{#d}{#d}{#d}{#d}{>c}{/}{/}{/}{/}");
        Check.form(x, 2, "{#c}{/}");
        counted(x, 0, "the 60th round, and too deep", 2, 19, 0, 59, 2, 0, 10, -1);
        x = rows(8, 6, 4);
        Check.form(x, 0, "{#a}{#b}{/}{/}{#c}{/}{#d}{#c}{/}{/}");
        counted(x, 0, "a section whose first round can't begin", 3, 12, 0, 60, 0, 0, 2, -1);
        Check.form(x, 0, "{#c}{/}{#a}{#b}{/}{/}{#d}{#d}{#c}{/}{/}{/}");
        counted(x, 0, "is not open", 3, 13, 0, 60, 0, 0, 2, -1);
        x = new Blankform();
        x.truth(0, -1, -1, true);
        Check.form(x, 0, "{>b}{>b}{>b}{>b}{>b}{>b}{>b}{>b}{>b}{>b}{>b}{>c}");
        Check.form(x, 1, "{>f}{>f}{>f}{>f}");
        Check.form(x, 2, "{#a}{#a}{#a}{#a}{>d}{/}{/}{/}{/}");
        Check.form(x, 3, "{#a}{#a}{#a}{#a}{>e}{/}{/}{/}{/}");
        Check.form(x, 4, "");
        Check.form(x, 5, "");
        counted(x, 0, "58 parts, the last one as the 11th that is open", 2, 8, 0, 0, 57, 0, 10, -1);
        Check.form(x, 2, "{>f}{>f}{#a}{#a}{#a}{#a}{>d}{/}{/}{/}{/}");
        counted(x, 0, "the 60th part, and too deep", 2, 8, 0, 0, 59, 0, 10, -1);
        Check.form(x, 2, "{>f}{>f}{>f}{#a}{#a}{#a}{#a}{>d}{/}{/}{/}{/}");
        counted(x, 0, "the 61st part, and too deep", 3, 8, 0, 0, 60, 0, 10, -1);
        Check.form(x, 3, "{#a}{#a}{#a}{#a}{$a}{/}{/}{/}{/}{/}");
        counted(x, 0, "a block so, too", 3, 8, 0, 0, 60, 0, 10, -1);
    }

    private static void firstFailure() {
        Sentence.is("The first FAILURE counts.");
        Blankform x = deep("{#a}{f}{/}");
        x.strict(true);
        counted(x, 1, "depth ahead of what is missing", 2, 9, 0, 0, 2, 0, 10, -1);
        Check.form(x, 3, "{f}{#a}{/}");
        counted(x, 1, "what is missing ahead of depth", 1, 9, 1, 0, 2, 0, 10, -1);
        Check.text(x, 1, "b".repeat(50));
        Check.form(x, 0, "{b}{b}{b}{b}{f}a");
        counted(x, 0, "missing ahead of length", 1, 5, 1, 0, 0, 0, 0, -1);
        Check.form(x, 0, "{b}{b}{b}{b}a{f}");
        counted(x, 0, "length ahead of missing", 3, 4, 0, 0, 0, 0, 0, -1);
        Check.form(x, 0, "{>f}{>a}");
        counted(x, 0, "a part that is not there ahead of depth", 1, 0, 0, 0, 0, 0, 0, -1);
        Check.form(x, 0, "{>a}{>f}");
        counted(x, 0, "depth ahead of that", 2, 0, 0, 0, 10, 0, 10, -1);
    }

    private static void notOpen() {
        Sentence.is("(A SECTION without ELSE, if what is in it is not shown, a PART that is not there, and a SUPER that stands in no"
                + " BLOCK, or for which no next one behind has a BLOCK of that letter, are not open, and such a PART or SUPER is"
                + " not counted.)");
        counted(deep("{#f}b{/}{#e}b{/}c"), 1, "sections without else", 0, 10, 1, 0, 2, 0, 10, 1);
        counted(deep("{>f}c"), 1, "a part that is not there", 0, 8, 0, 0, 2, 0, 10, 1);
        counted(deep("{*}c"), 1, "a super in no block", 0, 8, 0, 0, 2, 0, 10, 1);
        Blankform x = deep("c");
        Check.form(x, 2, "{#a}{#a}{#a}{$a}{*}{>d}{*}{/}{/}{/}{/}");
        counted(x, 1, "a super without a next one", 0, 7, 0, 0, 2, 1, 10, 1);
        Check.form(x, 4, "{#a}{#a}{#a}{$a}{/}{/}{/}{/}");
        Check.form(x, 2, "{$b}{/}{$a}{>d}{*}{/}");
        x.heir(2, 4);
        counted(x, 1, "with a next one", 0, 7, 0, 0, 2, 2, 10, 1);
        Check.form(x, 4, "{#a}{#a}{#a}{$b}{/}{/}{/}{/}");
        Check.form(x, 2, "{$b}{>d}{*}{>f}{/}");
        Check.form(x, 5, "");
        counted(x, 1, "a part behind it", 0, 7, 0, 0, 3, 2, 10, 1);
        Blankform y = new Blankform();
        Check.form(y, 0, "");
        counted(y, 0, "nothing at all", 0, 0, 0, 0, 0, 0, 0, 0);
        Check.form(y, 0, "{>b}{*}{#a}b{/}{$a}{*}{/}");
        counted(y, 0, "what is open", 0, 1, 1, 0, 0, 1, 1, 0);
    }

    private static void asks() {
        Sentence.is("ASKS: the set of the NAMES with which PATHS begin in a FORM, in those of its CHAIN, and in all FORMS that are"
                + " PARTS of these, of their CHAINS, and so on.");
        Blankform x = new Blankform();
        Check.form(x, 0, "abc{!d}{>a}{>b}{$c}{/}{*}");
        Check.due("no names", x.asks(0), 0);
        Check.form(x, 2, "{e}");
        Check.due("a block's letter is no part", x.asks(0), 0);
        Check.form(x, 0, "{.}{0}{#1}{/}{=2|3:a}");
        Check.due("no names, but items", x.asks(0), 0);
        Check.form(x, 0, "{a}{=b|3:d}{#c}{/}{f.d.e}");
        Check.due("with which they begin", x.asks(0), 39);
        Check.form(x, 0, "{#a}{b}{^}{c}{/}{$a}{d}{/}{=e}{f}");
        Check.due("all names", x.asks(0), 63);
        for (int form = 0; form <= 5; form++) {
            Check.form(x, form, "{" + "abcdef".charAt(form) + "}" + (form < 5 ? "{>" + "bcdefa".charAt(form) + "}" : ""));
        }
        Check.due("parts of parts", x.asks(0), 63);
        Check.due("of the third one", x.asks(2), 60);
        Check.due("of the last one", x.asks(5), 32);
        Check.form(x, 1, "{b}");
        Check.due("a part alone", x.asks(0), 3);
        x.heir(1, 4);
        Check.due("a part's parent, and its part", x.asks(0), 51);
        x.heir(4, 5);
        Check.form(x, 4, "{e}{>e}{>a}");
        Check.due("in a ring", x.asks(0), 51);
        Check.due("of its parent", x.asks(4), 51);
        Check.due("not of an heir", x.asks(5), 32);
        Check.form(x, 2, "{#f}{>d}{/}");
        Check.form(x, 3, "{d}");
        Check.due("a part that would not come up", x.asks(2), 40);
    }
}
