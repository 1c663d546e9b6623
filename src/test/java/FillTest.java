/** How a FORM is filled (section 3 of the document): what comes out, and what is counted meanwhile. */
public final class FillTest {

    private static final String[] COUNTS = {"failure", "looked for", "missing", "rounds", "parts", "blocks", "most open",
        "length"};

    private FillTest() {
    }

    public static void main(String[] args) {
        places();
        paths();
        blanksEaten();
        sections();
        scopes();
        rounds();
        elses();
        wordFilters();
        rowFilters();
        filtersInARow();
        missingFilters();
        parts();
        blocks();
        supers();
        blocksAndParts();
        strict();
        tooLong();
        tooDeep();
        tooManyRounds();
        tooManyParts();
        whichFailure();
        Check.end("FillTest");
    }

    private static void given(Blankform x, String form, String due) {
        Check.due(form + " gives", Check.given(x, form), due);
    }

    /** FAILURE, VALUES looked for, MISSING ones, ROUNDS, PARTS, BLOCKS, most open, length. */
    private static void counted(Blankform x, int form, String why, int... due) {
        for (int what = 0; what <= 7; what++) {
            Check.due(why + ": " + COUNTS[what], x.filling(form, what), due[what]);
        }
    }

    private static Blankform data() {
        Blankform x = new Blankform();
        Check.text(x, 0, "<{b}>");
        x.number(1, -1, -1, -12);
        x.truth(2, -1, -1, true);
        Check.row(x, 3, "c", "a", "<", "b");
        Check.type(x, "f").text(4, 0, -1);
        x.number(4, 1, 2, 7);
        return x;
    }

    private static void places() {
        Blankform x = data();
        given(x, "", "");
        given(x, "a ~b", "a ~b");
        given(x, "{!a}{!}", "");
        given(x, "{a}", "<0<1b<2>");
        given(x, "{=a}", "<{b}>");
        given(x, "{b}{c}{=b}", "-12yes-12");
        given(x, "{d}", "ca<0b");
        given(x, "{=d}", "ca<b");
        given(x, "{e}", "");
        given(x, "{f}", "");
        x.truth(2, -1, -1, false);
        given(x, "{c}", "no");
    }

    private static void paths() {
        Blankform x = data();
        given(x, "{e.a}", "f");
        given(x, "{e.b.c}", "7");
        given(x, "{e.b}", "");
        given(x, "{e.b.d}{e.c}{e.a.a}{a.a}{b.a}{d.a}{f.a}", "");
        counted(x, 5, "what is not there", 0, 7, 7, 0, 0, 0, 0, 0);
        x.row(5, -1, -1, 0);
        x.row(5, -1, -1, 2);
        x.number(5, 0, -1, 3);
        Check.due("data's own path", x.words(5, 0, -1), "3");
        given(x, "{f.a}", "");
        given(x, "{f.a|3:0}{#f}{a}{/}", "03");
    }

    private static void blanksEaten() {
        Blankform x = data();
        given(x, " ~a ~{-b-} ~ c ", " ~a-12c ");
        given(x, "a {b} c", "a -12 c");
        given(x, "a {b-} ~{-b} c", "a -12-12 c");
        given(x, "a {!-} b{-!} c", "a b c");
        given(x, "{#c-} a {-/-} b", "ab");
        given(x, "{#f} a {-^-} b {-/} c", "b c");
        given(x, "{$a-} a {-/-} b", "ab");
        given(x, "a {-*-} b", "ab");
        given(x, "a {->d-} b", "ab");
        given(x, "a {-=b-} b", "a-12b");
        given(x, "a {-!b-}{-!-} b ", "ab ");
        given(x, "a {!}{-!} b", "a  b");
        Check.text(x, 0, " ~ ");
        given(x, "b{-a-}b", "b ~ b");
    }

    private static void sections() {
        Blankform x = data();
        given(x, "{#a}b{^}c{/}", "b");
        given(x, "{#b}b{^}c{/}", "b");
        given(x, "{#c}b{^}c{/}", "b");
        given(x, "{#d}b{^}c{/}", "bbbb");
        given(x, "{#e}b{^}c{/}", "b");
        given(x, "{#f}b{^}c{/}", "c");
        given(x, "{#f}b{/}", "");
        given(x, "{#e.b.c}b{/}{#e.b}d{/}{#e.c}c{/}", "bd");
        Check.text(x, 0, "");
        x.number(1, -1, -1, 0);
        x.truth(2, -1, -1, false);
        x.row(3, -1, -1, 0);
        x.take(4, 0, -1);
        x.take(4, 1, -1);
        for (char name = 'a'; name <= 'f'; name++) {
            given(x, "{#" + name + "}b{^}c{/}", "c");
            given(x, "{#" + name + "}b{/}", "");
        }
        given(x, "{#.}b{^}c{/}{#0}b{^}c{/}{#1}b{^}c{/}{#2}b{^}c{/}", "cccc");
        Check.text(x, 0, "0");
        given(x, "{#a}b{^}c{/}", "b");
    }

    private static void scopes() {
        Blankform x = data();
        given(x, "{#e}{a}{b.c}{c}{/}{a|4}", "f7yes<0");
        given(x, "{#e}{#b}{c}{a}{/}{/}", "7f");
        given(x, "{#e}{.}{0}{1}{/}", "");
        given(x, "{#a}{.}{a}{/}", "<0<1b<2>");
        given(x, "{#d}{#e}{.}{a}{/}{/}", "cfaf<0fbf");
        given(x, "{#d}{#d}{0}{/}{0}{/}", "01230012310123201233");
        x.row(5, -1, -1, 0);
        x.row(5, -1, -1, 2);
        x.number(5, 0, -1, 1);
        x.row(5, -1, -1, 2);
        x.row(5, 3, -1, 0);
        Check.type(x, "e").row(5, 3, -1, 1);
        given(x, "{#f}{a|2}{0}{#d}{.}{0}{/}{^}{.}{/}", "10c0a1<02b351e0");
        given(x, "{#f}{#d}{#e}{.}{/}{/}{/}", "ca<0be");
        x.row(5, -1, -1, 3);
        given(x, "{#f}{#.}b{^}{0}{/}{/}", "bb2");
        given(x, "{#f}{#a}b{^}{0}{/}{/}", "bbb");
        x.take(0, -1, -1);
        given(x, "{#f}{#a}b{^}{0}{/}{/}", "b12");
        given(x, "{#f}{.}{.a}", "!");
    }

    private static void rounds() {
        Blankform x = data();
        given(x, "{#d}{0}{.}{1}{2}~{/}", "0cyesno~1anono~2<0nono~3bnoyes~");
        given(x, "{#d}{#1}{^}:{/}{=.}{#2}!{/}{/}", "c:a:<:b!");
        counted(x, 5, "rounds", 0, 13, 0, 4, 0, 0, 2, 8);
        Check.row(x, 3, "e");
        given(x, "{#d}{0}{1}{2}{#0}a{^}b{/}{/}", "0yesyesb");
        given(x, "{0}{1}{2}{.}{#d}{/}{0}", "");
        given(x, "{#d}{0|3:a}{.|2}{.|1}{1|4}{/}", "01Ey");
        given(x, "{#d}{=.}{.}{/}", "ee");
    }

    private static void elses() {
        Blankform x = data();
        given(x, "a{#f}b{^}c{#f}d{^}e{/}f{/}a", "acefa");
        counted(x, 5, "elses are open, too", 0, 2, 2, 0, 0, 0, 2, 5);
        given(x, "{#f}{a}{^}{/}", "");
        counted(x, 5, "an empty else", 0, 1, 1, 0, 0, 0, 1, 0);
        given(x, "{#f}{a}{/}", "");
        counted(x, 5, "no else", 0, 1, 1, 0, 0, 0, 0, 0);
        given(x, "{#a}{^}{b}{/}", "");
        counted(x, 5, "what is ahead of else is empty", 0, 1, 0, 0, 0, 0, 1, 0);
        given(x, "{#d}{^}{b}{/}", "");
        counted(x, 5, "empty rounds", 0, 1, 0, 4, 0, 0, 1, 0);
        x.row(3, -1, -1, 0);
        given(x, "{#d}a{^}b{/}", "b");
        counted(x, 5, "an empty row", 0, 1, 0, 0, 0, 0, 1, 1);
        given(x, "{#a}{#b}c{^}d{/}{^}e{/}", "c");
    }

    private static void wordFilters() {
        Blankform x = new Blankform();
        Check.text(x, 0, "  a ~b ");
        given(x, "{a|0}", "a ~b");
        given(x, "{a|1}", "  A ~B ");
        given(x, "{a|2}", "7");
        given(x, "{a|3:c}", "  a ~b ");
        given(x, "{a|4}{a|5}", "  ");
        given(x, "{a|6:4}", "  a ");
        given(x, "{a|6:9}", "  a ~b ");
        given(x, "{a|6}{a|6:a9}{a|6: 9}{a|6:0}", "");
        given(x, "{a|6:39}", "  a");
        given(x, "{a|7}", " b~ a  ");
        given(x, "{a|8:c}{a|9}", "  a ~b   a ~b ");
        Check.text(x, 0, "");
        given(x, "{a|3:c 0}", "c 0");
        given(x, "{a|3}{a|4}{a|5}{a|6:2}{a|7}{a|8:c}{a|9}{a|0}{a|1}", "");
        given(x, "{a|2}", "0");
        x.number(0, -1, -1, -120);
        given(x, "{a|2}{a|4}{a|5}{a|7}{a|6:3}{a|1}{a|9}", "4-0021--12-120-120");
        x.number(0, -1, -1, 0);
        given(x, "{a|3:c}", "0");
        x.truth(0, -1, -1, false);
        given(x, "{a|2}{a|4}{a|5}{a|7}{a|1}{a|3:c}", "2noonnono");
        Check.text(x, 0, "<");
        given(x, "{a|2}{a|4}{=a|7}", "1<0<");
        Check.text(x, 0, "abcdef");
        given(x, "{a|1}{=a|1|5}", "ABCDEFF");
    }

    private static void rowFilters() {
        Blankform x = new Blankform();
        Check.row(x, 0, " c", "a", "", "ab", " ", "a");
        given(x, "{a}", " caab a");
        given(x, "{a|0}", "caab a");
        given(x, "{a|1}", " CAAB A");
        given(x, "{a|2}", "6");
        given(x, "{a|3:f}", " caab a");
        given(x, "{a|4}{a|5}", " ca");
        given(x, "{a|6:3}", " ca");
        given(x, "{a|7}", "a aba c");
        given(x, "{a|8:0 }", " c0 a0 0 ab0  0 a");
        given(x, "{a|8}", " caab a");
        given(x, "{a|9|8:0}", "0 0 c0a0a0ab");
        given(x, "{a|7|9|4|3:f}", "f");
        given(x, "{a|7|8:0}", "a0 0ab00a0 c");
        x.row(0, -1, -1, 0);
        given(x, "{a|2}{a|3:f}{a|7}{a|8:f}{a|9}{a|0}", "0f");
        given(x, "{a|4|3:b}{a|5|3:c}{a|7|3:d}{a|8:f|3:e}", "bcde");
        Check.row(x, 0, "", "");
        given(x, "{a|3:f}{a|2}{a|8:b}", "f2b");
        given(x, "{a|4}{a|4|3:c}", "c");
        x.row(0, -1, -1, 2);
        x.number(0, 3, -1, 5);
        given(x, "{a|3:f}{a|5}{a|5|2}{a|8:c}", "f1cc");
        x.row(0, -1, -1, 3);
        given(x, "{a|5|2}{a|5|4|3:b}{a|5|7}", "0b");
        Check.row(x, 0, "f", "a");
        given(x, "{a|9}{a}", "affa");
        sortedByChars();
    }

    /** The order of chars is another one than that of the codes; what is alike stays as it stood. */
    private static void sortedByChars() {
        Blankform x = new Blankform();
        Check.row(x, 0, "~", "}", "|", "{", "f", "a", "^");
        given(x, "{=a|9}", "^af{|}~");
        Check.row(x, 0, ">", "=", "<", ":", "9", "0", "/", ".");
        given(x, "{=a|9}", "./09:<=>");
        Check.row(x, 0, "-", "*", "$", "#", "!", " ", "b", "ab");
        given(x, "{=a|9|8:0}", " 0!0#0$0*0-0ab0b");
        Check.row(x, 0, "aa", "a", "ab", "aaa", "b", "");
        given(x, "{=a|9|8:0}", "0a0aa0aaa0ab0b");
        x.row(0, -1, -1, 0);
        x.row(0, -1, -1, 3);
        x.row(0, -1, -1, 2);
        x.number(0, 0, -1, 1);
        given(x, "{a|9|5|2}{a|9|4|2}{a|7|4|2}", "101");
    }

    private static void filtersInARow() {
        Blankform x = new Blankform();
        Check.text(x, 0, " ab ");
        given(x, "{a|0|1|7|6:1}", "B");
        given(x, "{a|2|2}{a|7|4}{a|7|2|3:f|1}", "1 4");
        given(x, "{a|6|3:cd|1|7}", "DC");
        Check.row(x, 1, "bb", "a");
        given(x, "{b|9|4|1}{b|7|5|2}{b|8: |7}{b|1|4}", "A2a bbB");
        given(x, "{b|2|4}{b|9|2}{b|9|3:c|2}", "222");
        x.number(2, 4, -1, 8);
        given(x, "{c|9|2}{c|2}{c|7|2}{c|3:aa|2}{c|4|2}{c|8|2}{c|0|2}", "1102000");
    }

    private static void missingFilters() {
        Blankform x = new Blankform();
        given(x, "{a|0}{a|1}{a|4}{a|5}{a|6:1}{a|7}{a|8:b}{a|9}", "");
        counted(x, 5, "still missing", 0, 8, 8, 0, 0, 0, 0, 0);
        given(x, "{a|2}{a|3:b}{a|3|2}{a|4|2}{a|9|3:c}{.|2}", "0b00c0");
        x.strict(true);
        given(x, "{a|2}{a|3:b}{a|3}", "0b");
        counted(x, 5, "missing ahead of filters", 0, 3, 3, 0, 0, 0, 0, 2);
        for (String filter : new String[] {"0", "1", "4", "5", "6:1", "7", "8:a", "9"}) {
            given(x, "{a|" + filter + "}", "!");
        }
        x.row(0, -1, -1, 0);
        given(x, "{a|7}{a|9}{a|8:a}{a|0}{a}", "");
        given(x, "{a|4}", "!");
        counted(x, 5, "missing behind filters", 1, 1, 0, 0, 0, 0, 0, -1);
        given(x, "{a|5|3:b}", "b");
    }

    private static void parts() {
        Blankform x = data();
        Check.form(x, 0, ":{a|4}");
        Check.form(x, 1, "{>a}{.}{>a}");
        given(x, "{>a}", ":<0");
        given(x, "{>b}", ":<0:<0");
        given(x, "{#d}{>b}{/}", ":<0c:<0:<0a:<0:<0<0:<0:<0b:<0");
        counted(x, 5, "parts in rounds", 0, 13, 0, 4, 12, 0, 3, 29);
        given(x, "{>c}a{>c}", "a");
        counted(x, 5, "parts that are not there", 0, 0, 0, 0, 0, 0, 0, 1);
        given(x, "{#e}{>a}{/}", ":f");
        Check.form(x, 2, "");
        given(x, "{>c}{>c}", "");
        counted(x, 5, "empty parts", 0, 0, 0, 0, 2, 0, 1, 0);
    }

    private static void blocks() {
        Blankform x = data();
        given(x, "a{$a}b{/}c", "abc");
        counted(x, 5, "a block", 0, 0, 0, 0, 0, 1, 1, 3);
        Check.form(x, 0, "0{$a}1{$b}2{/}3{/}4{$c}5{/}");
        Check.form(x, 1, "a{$b}b{/}c{$d}d{/}");
        x.heir(1, 0);
        Check.due("a block inside one replaced", x.fill(1), "01b345");
        Check.form(x, 2, "{$a}e{/}{$c}{/}");
        x.heir(2, 1);
        Check.due("the block around replaced", x.fill(2), "0e4");
        counted(x, 2, "empty blocks count", 0, 0, 0, 0, 0, 2, 1, 3);
        Check.form(x, 2, "{#f}{$b}e{/}{/}");
        Check.due("from a section that is not shown", x.fill(2), "01e345");
        Check.form(x, 0, "{#d}{$a}{0}{/}{/}");
        Check.form(x, 1, "{$a}{.}{/}");
        x.lone(2);
        Check.due("in the scopes where it stands", x.fill(1), "ca<0b");
        Check.due("the parent itself", x.fill(0), "0123");
        Check.form(x, 1, "{$a}{$b}f{/}{/}{$c}{/}");
        Check.due("a block that the parent has not", x.fill(1), "ffff");
        Check.form(x, 2, "{$b}e{/}");
        x.heir(2, 1);
        Check.due("that replaced by an heir", x.fill(2), "eeee");
    }

    private static void supers() {
        Blankform x = data();
        given(x, "a{*}b", "ab");
        given(x, "{$a}a{*}b{/}", "ab");
        counted(x, 5, "super without a next one", 0, 0, 0, 0, 0, 1, 1, 2);
        Check.form(x, 0, "{$a}0{*}0{/}{*}");
        Check.form(x, 1, "b");
        Check.form(x, 2, "{$a}2{*}{*}2{/}");
        x.heir(1, 0);
        x.heir(2, 1);
        Check.due("over one that has none", x.fill(2), "200002");
        counted(x, 2, "supers count", 0, 0, 0, 0, 0, 3, 2, 6);
        Check.form(x, 1, "{$a}1{*}1{/}");
        Check.due("super of super", x.fill(2), "2100110012");
        counted(x, 2, "super of super", 0, 0, 0, 0, 0, 5, 3, 10);
        Check.form(x, 2, "{$a}{$b}c{*}{/}{*}{/}");
        Check.due("the innermost block counts", x.fill(2), "c1001");
        Check.form(x, 1, "{$b}d{/}{$a}1{$b}{/}{/}");
        Check.due("a form with a block twice has a fault", x.ofForm(1, 7), 12);
        Check.form(x, 1, "{$a}1{$b}d{/}{/}");
        Check.due("blocks in a super's block", x.fill(2), "cd1cd");
        Check.form(x, 1, "{$a}{/}");
        Check.due("an empty one behind", x.fill(2), "c");
        counted(x, 2, "an empty one counts", 0, 0, 0, 0, 0, 3, 2, 1);
        Check.form(x, 0, "{$a}{#d}{*}{/}{/}");
        Check.form(x, 1, "{$a}0{#c}{*}{/}{/}");
        Check.due("in a section in a block", x.fill(1), "0");
        Check.form(x, 0, "{#d}{$a}{0}{/}{/}");
        Check.due("in the scopes of the block", x.fill(1), "00010203");
    }

    private static void blocksAndParts() {
        Blankform x = data();
        Check.form(x, 0, "{$a}0{/}");
        Check.form(x, 1, "{$a}1{>c}{/}");
        x.heir(1, 0);
        Check.form(x, 2, "{*}{$a}2{/}");
        Check.due("a part has its own chain, and no block open", x.fill(1), "12");
        counted(x, 1, "a part in a block", 0, 0, 0, 0, 1, 2, 3, 2);
        Check.form(x, 3, "{$a}3{*}{/}");
        x.heir(2, 3);
        Check.due("the part's parent", x.fill(1), "12");
        Check.form(x, 2, "{$a}2{*}{/}");
        Check.due("the part's super", x.fill(1), "123");
        given(x, "{>b}{>d}", "1233");
        Check.form(x, 0, "{>b}");
        x.lone(1);
        Check.form(x, 1, "{$a}1{/}");
        x.heir(0, 1);
        Check.due("pieces of the last of the chain alone", x.fill(0), "1");
        counted(x, 0, "the heir's part does not come up", 0, 0, 0, 0, 0, 1, 1, 1);
    }

    private static void strict() {
        Blankform x = data();
        x.strict(true);
        given(x, "{f}", "!");
        counted(x, 5, "a place", 1, 1, 1, 0, 0, 0, 0, -1);
        given(x, "{a}{b}{=f}{c}", "!");
        counted(x, 5, "up to that", 1, 3, 1, 0, 0, 0, 0, -1);
        given(x, "{#f}{f}{/}{#f}{^}a{/}", "a");
        counted(x, 5, "sections don't fail", 0, 2, 2, 0, 0, 0, 1, 1);
        given(x, "{a}{>a}{b}", "!");
        counted(x, 5, "a part that is not there", 1, 1, 0, 0, 0, 0, 0, -1);
        given(x, "{.}", "!");
        given(x, "{0}", "!");
        given(x, "{e.f}", "!");
        given(x, "{#f}{>a}{f}{/}{*}{$a}{*}{/}", "");
        counted(x, 5, "super without a next one", 0, 1, 1, 0, 0, 1, 1, 0);
        given(x, "{e}{#d}{.}{/}", "ca<0b");
        given(x, "{#d}{$a}{f}{/}{/}", "!");
        counted(x, 5, "in the first round", 1, 2, 1, 1, 0, 1, 2, -1);
    }

    private static void tooLong() {
        Blankform x = new Blankform();
        Check.text(x, 0, "b".repeat(50));
        given(x, "{a}{a}{a}{a}", "b".repeat(200));
        counted(x, 5, "200 signs", 0, 4, 0, 0, 0, 0, 0, 200);
        given(x, "{a}{a}{a}{a}c", "!");
        counted(x, 5, "201 signs", 3, 4, 0, 0, 0, 0, 0, -1);
        given(x, "{a}{a}{a}{a}{!}{b}{#b}c{/}", "b".repeat(200));
        given(x, "c{a}{a}{a}{a}{a}", "!");
        counted(x, 5, "a place that is too long was looked for", 3, 4, 0, 0, 0, 0, 0, -1);
        Check.text(x, 0, "<".repeat(50));
        given(x, "{a}{a}", "<0".repeat(100));
        given(x, "{a}{a}{=a|4}", "!");
        given(x, "{=a}{=a}{=a}{=a}", "<".repeat(200));
        Check.row(x, 1, "c".repeat(60), "c".repeat(60), "c".repeat(60), "c".repeat(60), "d");
        given(x, "{b}", "!");
        given(x, "{b|5}{b|2}{b|8|2}{b|8:0|2}", "d5241245");
        x.row(1, -1, -1, 0);
        Check.type(x, "e".repeat(60));
        for (int k = 0; k < 8; k++) {
            x.row(1, -1, -1, 1);
        }
        given(x, "{b|8:" + "0".repeat(51) + "|2}", "837");
        given(x, "{b|8:000|6:4}", "eeee");
    }

    private static void tooDeep() {
        Blankform x = new Blankform();
        x.truth(0, -1, -1, true);
        Check.form(x, 0, "{>a}");
        counted(x, 0, "a part of itself", 2, 0, 0, 0, 10, 0, 10, -1);
        Check.form(x, 1, "{#a}{#a}{#a}{#a}{>c}{/}{/}{/}{/}");
        Check.form(x, 2, "{#a}{#a}{#a}{#a}{>d}{/}{/}{/}{/}");
        Check.form(x, 3, "b");
        counted(x, 1, "ten open", 0, 8, 0, 0, 2, 0, 10, 1);
        Check.form(x, 3, "{#a}b{/}");
        counted(x, 1, "a section as the 11th", 2, 9, 0, 0, 2, 0, 10, -1);
        Check.form(x, 3, "{#b}b{/}e");
        counted(x, 1, "a section that is not shown", 0, 9, 1, 0, 2, 0, 10, 1);
        Check.form(x, 3, "{#b}b{^}{/}e");
        counted(x, 1, "an else as the 11th", 2, 9, 1, 0, 2, 0, 10, -1);
        Check.form(x, 3, "{>e}e");
        counted(x, 1, "a part that is not there", 0, 8, 0, 0, 2, 0, 10, 1);
        Check.form(x, 3, "{>f}e");
        Check.form(x, 5, "");
        counted(x, 1, "a part as the 11th", 2, 8, 0, 0, 2, 0, 10, -1);
        Check.form(x, 3, "{$a}{/}");
        counted(x, 1, "a block as the 11th", 2, 8, 0, 0, 2, 0, 10, -1);
        Check.form(x, 3, "{*}e");
        counted(x, 1, "a super that stands in no block", 0, 8, 0, 0, 2, 0, 10, 1);
        Check.row(x, 2, "a", "b");
        Check.form(x, 3, "{#c}b{/}");
        counted(x, 1, "a row as the 11th", 2, 9, 0, 0, 2, 0, 10, -1);
        x.row(2, -1, -1, 0);
        counted(x, 1, "an empty row", 0, 9, 0, 0, 2, 0, 10, 0);
        Check.form(x, 2, "{#a}{#a}{#a}{$a}{*}{>d}{/}{/}{/}{/}");
        counted(x, 1, "a super without a next one", 0, 8, 0, 0, 2, 1, 10, 0);
        Check.form(x, 4, "{#a}{#a}{#a}{$a}{>d}{/}{/}{/}{/}");
        Check.form(x, 2, "{$a}{*}{/}");
        x.heir(2, 4);
        Check.form(x, 3, "");
        counted(x, 1, "a super, and one more", 2, 7, 0, 0, 1, 2, 10, -1);
        Check.form(x, 2, "{$a}{$b}{$c}{/}{/}{/}");
        counted(x, 1, "blocks in a block", 2, 7, 0, 0, 1, 2, 10, -1);
    }

    private static void tooManyRounds() {
        Blankform x = new Blankform();
        Check.row(x, 0, "", "", "", "", "", "", "", "");
        Check.row(x, 1, "", "", "", "", "", "", "", "");
        given(x, "{#a}{#b}{/}{/}", "!");
        counted(x, 5, "8 times 9 rounds", 3, 8, 0, 60, 0, 0, 2, -1);
        Check.row(x, 1, "", "", "", "", "", "");
        given(x, "{#a}{#b}{/}{/}", "");
        counted(x, 5, "56 rounds", 0, 9, 0, 56, 0, 0, 2, 0);
        Check.row(x, 2, "", "", "", "");
        given(x, "{#a}{#b}{/}{/}{#c}{/}", "");
        counted(x, 5, "60 rounds", 0, 10, 0, 60, 0, 0, 2, 0);
        given(x, "{#a}{#b}{/}{/}{#c}{/}{#c}{/}", "!");
        counted(x, 5, "the 61st round", 3, 11, 0, 60, 0, 0, 2, -1);
        Check.row(x, 2, "", "", "", "", "");
        given(x, "{#a}{#b}{/}{/}{#c}{/}", "!");
        counted(x, 5, "the 61st round in a row", 3, 10, 0, 60, 0, 0, 2, -1);
        x.truth(3, -1, -1, true);
        Check.row(x, 2, "", "", "", "");
        given(x, "{#a}{#b}{/}{/}{#c}{/}{#d}a{/}{#e}{^}b{/}", "ab");
        counted(x, 5, "other sections have no rounds", 0, 12, 1, 60, 0, 0, 2, 2);
    }

    private static void tooManyParts() {
        Blankform x = new Blankform();
        Check.row(x, 0, "", "", "", "", "", "", "");
        Check.form(x, 0, "{>b}{>b}{>b}{>b}");
        Check.form(x, 1, "");
        given(x, "{>a}{>a}{>a}{>a}{>a}{>a}{>a}{>a}{>a}{>a}{>a}{>a}", "");
        counted(x, 5, "60 parts", 0, 0, 0, 0, 60, 0, 2, 0);
        given(x, "{>a}{>a}{>a}{>a}{>a}{>a}{>a}{>a}{>a}{>a}{>a}{>a}{>b}", "!");
        counted(x, 5, "the 61st part", 3, 0, 0, 0, 60, 0, 2, -1);
        given(x, "{>a}{>a}{>a}{>a}{>a}{>a}{>a}{>a}{>a}{>a}{>a}{>a}{$a}{/}", "!");
        counted(x, 5, "a block as the 61st", 3, 0, 0, 0, 60, 0, 2, -1);
        given(x, "{>a}{>a}{>a}{>a}{>a}{>a}{>a}{>a}{>a}{>a}{>a}{>a}{>c}{*}a", "a");
        counted(x, 5, "what is not there", 0, 0, 0, 0, 60, 0, 2, 1);
        Check.form(x, 2, "{>a}{>a}{>a}{>a}{>a}{>a}{>a}{>a}{>a}{>a}{>a}{$a}{/}");
        Check.form(x, 3, "{$a}{>b}{>b}{*}{/}");
        x.heir(3, 2);
        counted(x, 3, "55 and 4 parts and blocks", 0, 0, 0, 0, 57, 2, 2, 0);
        Check.form(x, 3, "{$a}{>b}{>b}{>b}{*}{/}");
        counted(x, 3, "a super as the 60th", 0, 0, 0, 0, 58, 2, 2, 0);
        Check.form(x, 3, "{$a}{>b}{>b}{>b}{>b}{*}{/}");
        counted(x, 3, "a super as the 61st", 3, 0, 0, 0, 59, 1, 2, -1);
        x.strict(true);
        given(x, "{>a}{>a}{>a}{>a}{>a}{>a}{>a}{>a}{>a}{>a}{>a}{>a}{>e}", "!");
        counted(x, 5, "a part that is not there, in strict", 1, 0, 0, 0, 60, 0, 2, -1);
    }

    private static void whichFailure() {
        Blankform x = new Blankform();
        x.truth(0, -1, -1, true);
        Check.row(x, 1, "", "", "", "", "", "", "", "");
        Check.row(x, 2, "", "", "", "", "", "");
        Check.row(x, 3, "", "", "", "");
        Check.form(x, 0, "{#b}{#c}{/}{/}{#d}{/}{#a}{#a}{#a}{#a}{>b}{/}{/}{/}{/}");
        Check.form(x, 1, "{#a}{#a}{#a}{#a}{>c}{/}{/}{/}{/}");
        Check.form(x, 2, "{#b}{/}");
        counted(x, 0, "a round goes ahead of the depth", 3, 19, 0, 60, 2, 0, 10, -1);
        Check.form(x, 2, "{#a}{/}");
        counted(x, 0, "no round, but the depth", 2, 19, 0, 60, 2, 0, 10, -1);
        Check.form(x, 0, "{>f}{>f}{>f}{#a}{#a}{#a}{#a}{>b}{/}{/}{/}{/}");
        Check.form(x, 1, "{#a}{#a}{#a}{#a}{>d}{/}{/}{/}{/}");
        Check.form(x, 3, "{>c}");
        Check.form(x, 5, "{>e}{>e}{>e}{>e}{>e}{>e}{>e}{>e}{>e}{>e}{>e}{>e}{>e}{>e}{>e}");
        Check.form(x, 4, "");
        counted(x, 0, "the depth alone", 2, 8, 0, 0, 50, 0, 10, -1);
        Check.form(x, 0, "{>f}{>f}{>f}{>e}{>e}{>e}{>e}{>e}{>e}{>e}{#a}{#a}{>b}{/}{/}");
        Check.form(x, 1, "{#a}{#a}{#a}{#a}{>d}{/}{/}{/}{/}");
        Check.form(x, 3, "{>e}{#a}{>c}{/}");
        Check.form(x, 2, "");
        counted(x, 0, "59 parts", 0, 7, 0, 0, 59, 0, 10, 0);
        Check.form(x, 2, "{>e}");
        counted(x, 0, "59 parts and the depth", 2, 7, 0, 0, 59, 0, 10, -1);
        Check.form(x, 3, "{>e}{>e}{#a}{>c}{/}");
        counted(x, 0, "the 61st part goes ahead of the depth", 3, 7, 0, 0, 60, 0, 10, -1);
        Check.form(x, 2, "{$a}{/}");
        counted(x, 0, "a block as the 61st does so, too", 3, 7, 0, 0, 60, 0, 10, -1);
        x.strict(true);
        Check.form(x, 3, "{f}{>e}");
        counted(x, 0, "the first failure counts", 1, 7, 1, 0, 57, 0, 8, -1);
    }
}
