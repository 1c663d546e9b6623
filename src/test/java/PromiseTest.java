/** Each promise of the document: ordinary inputs, the edges that it names, and wrong inputs. */
public final class PromiseTest {

    private static final Class<IllegalArgumentException> ARGUMENT = IllegalArgumentException.class;
    private static final Class<IllegalStateException> STATE = IllegalStateException.class;
    private static final Class<IndexOutOfBoundsException> INDEX = IndexOutOfBoundsException.class;

    private PromiseTest() {
    }

    public static void main(String[] args) {
        newObject();
        say();
        text();
        number();
        truth();
        row();
        take();
        wipe();
        form();
        heir();
        lone();
        strict();
        keep();
        burn();
        blankAndKnock();
        typed();
        fault();
        ofData();
        words();
        escape();
        unescape();
        filter();
        house();
        ofForm();
        fill();
        filling();
        asks();
        block();
        letter();
        back();
        common();
        only();
        joined();
        wouldGive();
        isSound();
        digest();
        Check.end("PromiseTest");
    }

    private interface PathCall {
        void at(int a, int b, int c);
    }

    /** All that a PATH must not be. */
    private static void refusesPaths(Blankform x, String name, PathCall call) {
        int[][] wrong = {{-1, -1, -1}, {6, -1, -1}, {0, -2, -1}, {0, 6, -1}, {0, 0, -2}, {0, 0, 6}, {0, -1, 0},
            {Integer.MIN_VALUE, 0, 0}, {0, Integer.MAX_VALUE, 0}, {0, 0, Integer.MAX_VALUE}};
        for (int[] path : wrong) {
            Check.refuses(x, name + " at " + path[0] + ", " + path[1] + ", " + path[2], ARGUMENT,
                    () -> call.at(path[0], path[1], path[2]));
        }
    }

    // Promise 1
    private static void newObject() {
        Blankform x = new Blankform();
        for (int what = 0; what <= 7; what++) {
            Check.due("new: house(" + what + ")", x.house(what), 0);
        }
        for (int form = 0; form < 6; form++) {
            Check.due("new: ofForm(" + form + ", 0)", x.ofForm(form, 0), 0);
            Check.due("new: ofForm(" + form + ", 6)", x.ofForm(form, 6), -1);
            Check.due("new: ofData(" + form + ")", x.ofData(form, -1, -1, 0), 0);
        }
        Check.due("new: typed()", x.typed(), "");
        Blankform y = new Blankform();
        y.knock();
        y.say(0, 1, 2, 3, 4, 5);
        Check.due("another object's typed()", x.typed(), "");
        Check.due("another object's knocks", x.house(6), 0);
    }

    // Promise 2
    private static void say() {
        Blankform x = new Blankform();
        Check.due("say all letters", x.say(0, 1, 2, 3, 4, 5), 6);
        Check.due("say more", x.say(6, 7, 8, 9, 10, 11), 12);
        x.say(12, 13, 14, 15, 16, 17);
        x.say(18, 19, 20, 21, 22, 23);
        x.say(24, 25, 26, 27, 28, 29);
        Check.due("say to 32", x.say(30, 31, 32, -1, -1, -1), 33);
        Check.due("all keys", x.typed(), "abcdef ~{}#^/.|:>!-=$*<0123456789");
        Check.due("say nothing", x.say(-1, -1, -1, -1, -1, -1), 33);
        Check.due("take off", x.say(33, 33, -1, -1, -1, -1), 31);
        Check.due("take all off, then one", x.say(34, 4, -1, -1, -1, -1), 1);
        Check.due("typed behind that", x.typed(), "e");
        Check.due("take off more than there is", x.say(33, 33, 33, 33, 33, 0), 1);
        Check.due("all at the end", x.say(0, 0, 0, 0, 0, 34), 0);
        for (int k = 0; k < 9; k++) {
            x.say(0, 1, 2, 3, 4, 5);
        }
        Check.due("say 60", x.say(0, 0, 0, 0, 0, 0), 60);
        Check.refuses(x, "say one more", STATE, () -> x.say(0, -1, -1, -1, -1, -1));
        Check.refuses(x, "61 at some moment", STATE, () -> x.say(0, 33, -1, -1, -1, -1));
        Check.refuses(x, "61 ahead of all off", STATE, () -> x.say(33, 0, 0, 34, -1, -1));
        Check.due("60 at some moment", x.say(33, 1, 33, 2, -1, -1), 60);
        Check.due("room behind all off", x.say(34, 0, 0, -1, -1, -1), 2);
        Check.refuses(x, "code 35", ARGUMENT, () -> x.say(0, 0, 0, 0, 0, 35));
        Check.refuses(x, "code -2", ARGUMENT, () -> x.say(-2, 0, 0, 0, 0, 0));
        for (int at = 0; at < 6; at++) {
            int[] c = {0, 0, 0, 0, 0, 0};
            c[at] = at % 2 == 0 ? Integer.MAX_VALUE : Integer.MIN_VALUE;
            Check.refuses(x, "a wrong code at " + at, ARGUMENT, () -> x.say(c[0], c[1], c[2], c[3], c[4], c[5]));
        }
        Check.type(x, "a".repeat(60));
        Check.refuses(x, "a wrong code goes ahead", ARGUMENT, () -> x.say(0, 0, 0, 0, 0, 35));
    }

    // Promise 3
    private static void text() {
        Blankform x = new Blankform();
        Check.type(x, "ab c");
        Check.due("text(0)", x.text(0, -1, -1), 4);
        Check.due("its words", x.words(0, -1, -1), "ab c");
        Check.type(x, "");
        Check.due("the empty text", x.text(1, -1, -1), 0);
        Check.due("its kind", x.ofData(1, -1, -1, 0), 1);
        Check.due("through a text", x.text(0, 1, -1), -1);
        Check.due("through a text, deeper", x.text(0, 1, 2), -1);
        Check.due("what was there stays", x.words(0, -1, -1), "ab c");
        Check.due("names of data", x.house(7), 3);
        Check.type(x, "f");
        Check.due("maps are made on the way", x.text(2, 3, 4), 1);
        Check.due("the first map", x.ofData(2, -1, -1, 0), 5);
        Check.due("the second map", x.ofData(2, 3, -1, 4), 16);
        Check.due("the value", x.words(2, 3, 4), "f");
        Check.due("over a map", x.text(2, -1, -1), 1);
        Check.due("the map is gone", x.ofData(2, 3, 4, 0), 0);
        x.row(3, -1, -1, 0);
        Check.due("through an empty row", x.text(3, 0, -1), -1);
        x.row(3, -1, -1, 2);
        Check.due("into the last map of a row", x.text(3, 0, -1), 1);
        Check.due("read from there", x.words(3, 0, -1), "f");
        x.row(3, -1, -1, 1);
        Check.due("the last value of a row is a text", x.text(3, 0, -1), -1);
        x.row(3, -1, -1, 3);
        Check.due("the last value of a row is a row", x.text(3, 0, -1), -1);
        Check.type(x, "abc");
        x.text(4, -1, -1);
        Check.type(x, "def");
        Check.due("a value is not typed on", x.words(4, -1, -1), "abc");
        refusesPaths(x, "text", (a, b, c) -> x.text(a, b, c));
    }

    // Promise 4
    private static void number() {
        Blankform x = new Blankform();
        Check.due("0", x.number(0, -1, -1, 0), 1);
        Check.due("words of 0", x.words(0, -1, -1), "0");
        Check.due("-9999", x.number(0, -1, -1, -9999), 5);
        Check.due("words of -9999", x.words(0, -1, -1), "-9999");
        Check.due("9999", x.number(0, -1, -1, 9999), 4);
        Check.due("words of 9999", x.words(0, -1, -1), "9999");
        Check.due("10", x.number(1, 2, 3, 10), 2);
        Check.due("1000", x.number(1, 2, 3, 1000), 4);
        Check.due("-10", x.number(1, 2, 3, -10), 3);
        Check.due("words of -10", x.words(1, 2, 3), "-10");
        Check.due("through a number", x.number(0, 1, -1, 3), -1);
        Check.due("of that", x.ofData(1, 2, 3, 3), -10);
        Check.refuses(x, "10000", ARGUMENT, () -> x.number(0, -1, -1, 10000));
        Check.refuses(x, "-10000", ARGUMENT, () -> x.number(0, -1, -1, -10000));
        Check.refuses(x, "a wrong number where it can't be", ARGUMENT, () -> x.number(0, 1, -1, Integer.MIN_VALUE));
        refusesPaths(x, "number", (a, b, c) -> x.number(a, b, c, 1));
    }

    // Promise 5
    private static void truth() {
        Blankform x = new Blankform();
        Check.due("nothing was there", x.truth(0, -1, -1, true), 0);
        Check.due("yes", x.words(0, -1, -1), "yes");
        Check.due("a value was there", x.truth(0, -1, -1, false), 1);
        Check.due("no", x.words(0, -1, -1), "no");
        Check.due("can't be", x.truth(0, 0, -1, true), -1);
        Check.due("new maps", x.truth(1, 2, 3, true), 0);
        Check.due("there now", x.truth(1, 2, 3, true), 1);
        Check.due("over a map", x.truth(1, 2, -1, true), 1);
        refusesPaths(x, "truth", (a, b, c) -> x.truth(a, b, c, true));
    }

    // Promise 6
    private static void row() {
        Blankform x = new Blankform();
        Check.type(x, "ab");
        Check.due("no row yet", x.row(0, -1, -1, 1), -1);
        Check.due("nothing was made", x.row(1, 2, -1, 2), -1);
        Check.due("names", x.house(2), 0);
        Check.due("the empty row", x.row(0, -1, -1, 0), 0);
        Check.due("a text", x.row(0, -1, -1, 1), 1);
        Check.due("a map", x.row(0, -1, -1, 2), 2);
        Check.due("a row", x.row(0, -1, -1, 3), 3);
        for (int k = 4; k <= 8; k++) {
            Check.due("value " + k, x.row(0, -1, -1, 1), k);
        }
        Check.due("the 9th value", x.row(0, -1, -1, 1), -1);
        Check.due("the 9th value, a map", x.row(0, -1, -1, 2), -1);
        Check.due("still 8", x.ofData(0, -1, -1, 1), 8);
        Check.due("words of all", x.words(0, -1, -1), "ababababab" + "ab");
        Check.due("a new empty row", x.row(0, -1, -1, 0), 0);
        Check.due("is empty", x.ofData(0, -1, -1, 1), 0);
        Check.due("deep", x.row(2, 3, 4, 0), 0);
        Check.due("deep, a map", x.row(2, 3, 4, 2), 1);
        Check.due("on the way to that", x.ofData(2, 3, -1, 4), 16);
        x.number(5, -1, -1, 1);
        Check.due("of a number", x.row(5, -1, -1, 1), -1);
        Check.due("can't be", x.row(5, 0, -1, 0), -1);
        x.row(0, -1, -1, 2);
        Check.due("a row in the last map of a row", x.row(0, 1, -1, 0), 0);
        Check.due("a value of that", x.row(0, 1, -1, 1), 1);
        Check.refuses(x, "what 4", ARGUMENT, () -> x.row(0, -1, -1, 4));
        Check.refuses(x, "what -1", ARGUMENT, () -> x.row(0, -1, -1, -1));
        refusesPaths(x, "row", (a, b, c) -> x.row(a, b, c, 0));
        refusesPaths(x, "row of 1", (a, b, c) -> x.row(a, b, c, 1));
    }

    // Promise 7
    private static void take() {
        Blankform x = new Blankform();
        Check.due("nothing there", x.take(0, -1, -1), false);
        Check.due("nothing on the way", x.take(0, 1, 2), false);
        Check.due("nothing was made", x.house(2), 0);
        x.number(0, 1, 2, 7);
        x.number(0, 1, 3, 7);
        Check.due("deep", x.take(0, 1, 2), true);
        Check.due("it is gone", x.ofData(0, 1, 2, 0), 0);
        Check.due("the other one stays", x.ofData(0, 1, -1, 4), 8);
        Check.due("once more", x.take(0, 1, 2), false);
        x.take(0, 1, 3);
        Check.due("the empty map stays", x.ofData(0, 1, -1, 0), 5);
        Check.due("through a number", x.take(0, 1, 3), false);
        Check.due("the whole map", x.take(0, -1, -1), true);
        Check.due("names", x.house(2), 0);
        x.row(1, -1, -1, 0);
        x.row(1, -1, -1, 2);
        x.number(1, 4, -1, 3);
        Check.due("from the last map of a row", x.take(1, 4, -1), true);
        Check.due("that map", x.ofData(1, -1, -1, 1), 1);
        refusesPaths(x, "take", (a, b, c) -> x.take(a, b, c));
    }

    // Promise 8
    private static void wipe() {
        Blankform x = new Blankform();
        Check.due("of nothing", x.wipe(), 0);
        x.number(0, -1, -1, 7);
        x.number(5, 1, 2, 7);
        Check.due("two names", x.wipe(), 2);
        Check.due("empty", x.house(7), 0);
        Check.due("nothing there", x.words(0, -1, -1), "!");
        Check.due("again", x.wipe(), 0);
        Check.due("told again", x.truth(5, 1, -1, true), 0);
    }

    // Promise 9
    private static void form() {
        Blankform x = new Blankform();
        Check.due("the empty form", Check.form(x, 0, ""), 0);
        Check.due("is there", x.ofForm(0, 0), 1);
        Check.due("a text", Check.form(x, 0, "abc"), 1);
        Check.due("texts and tags", Check.form(x, 1, "a{b}c{!}{#a}{/} "), 7);
        Check.due("a text that is eaten whole", Check.form(x, 2, "{a-} ~ {-b}"), 3);
        Check.due("a fault", Check.form(x, 0, "{"), -1);
        Check.due("the form stays", x.fill(0), "abc");
        Check.due("a fault of a form that is not there", Check.form(x, 3, "}"), -1);
        Check.due("it is not there", x.ofForm(3, 0), 0);
        x.heir(0, 1);
        Check.due("typed anew", Check.form(x, 0, "b"), 1);
        Check.due("the parent stays", x.ofForm(0, 6), 1);
        Check.type(x, "cc");
        x.lone(0);
        Check.due("a form is not typed on", x.fill(0), "b");
        Check.refuses(x, "form 6", INDEX, () -> x.form(6));
        Check.refuses(x, "form -1", INDEX, () -> x.form(-1));
        Check.type(x, "{");
        Check.refuses(x, "form 6 of a fault", INDEX, () -> x.form(6));
    }

    // Promise 10
    private static void heir() {
        Blankform x = new Blankform();
        Check.refuses(x, "nobody there", STATE, () -> x.heir(0, 1));
        Check.form(x, 0, "a{$a}{/}");
        Check.refuses(x, "no parent there", STATE, () -> x.heir(0, 1));
        Check.refuses(x, "no heir there", STATE, () -> x.heir(1, 0));
        Check.refuses(x, "heir of itself", STATE, () -> x.heir(0, 0));
        Check.form(x, 1, "b{$a}e{/}");
        Check.form(x, 2, "c{$a}f{/}");
        Check.due("first parent", x.heir(0, 1), -1);
        Check.due("another parent", x.heir(0, 2), 1);
        Check.due("the same parent", x.heir(0, 2), 2);
        x.heir(1, 0);
        Check.due("the chain", x.ofForm(1, 10), 3);
        Check.refuses(x, "a ring of three", STATE, () -> x.heir(2, 1));
        Check.refuses(x, "a ring of two", STATE, () -> x.heir(2, 0));
        Check.due("filled with the heir's", x.fill(1), "ce");
        Check.refuses(x, "heir 6", INDEX, () -> x.heir(6, 0));
        Check.refuses(x, "heir -1", INDEX, () -> x.heir(-1, 0));
        Check.refuses(x, "parent 6", INDEX, () -> x.heir(0, 6));
        Check.refuses(x, "parent -1 of one that is not there", INDEX, () -> x.heir(4, -1));
    }

    // Promise 11
    private static void lone() {
        Blankform x = new Blankform();
        Check.refuses(x, "not there", STATE, () -> x.lone(0));
        Check.form(x, 0, "a");
        Check.form(x, 1, "b");
        Check.due("without one", x.lone(0), -1);
        x.heir(0, 1);
        Check.due("with one", x.lone(0), 1);
        Check.due("no more", x.ofForm(0, 6), -1);
        Check.due("filled alone", x.fill(0), "a");
        Check.due("free for the other way", x.heir(1, 0), -1);
        Check.refuses(x, "lone(6)", INDEX, () -> x.lone(6));
        Check.refuses(x, "lone(-1)", INDEX, () -> x.lone(-1));
    }

    // Promise 12
    private static void strict() {
        Blankform x = new Blankform();
        Check.due("at first", x.strict(false), false);
        Check.due("before", x.strict(true), false);
        Check.due("strict now", x.house(4), 1);
        Check.form(x, 0, "{a}");
        Check.due("fails", x.fill(0), "!");
        Check.due("and on", x.strict(true), true);
        Check.due("and off", x.strict(false), true);
        Check.due("gives", x.fill(0), "");
    }

    // Promise 13
    private static void keep() {
        Blankform x = new Blankform();
        Check.refuses(x, "not there", STATE, () -> x.keep(0));
        Check.form(x, 0, "{a}");
        x.strict(true);
        Check.due("it fails", x.keep(0), -1);
        Check.due("nothing is kept", x.house(1), 0);
        x.strict(false);
        for (int k = 0; k < 8; k++) {
            x.number(0, -1, -1, k);
            Check.due("letter " + k, x.keep(0), k);
        }
        for (int k = 0; k < 8; k++) {
            Check.due("kept " + k, x.letter(k), String.valueOf(k));
        }
        Check.refuses(x, "a 9th one", STATE, () -> x.keep(0));
        x.take(0, -1, -1);
        x.strict(true);
        Check.refuses(x, "a 9th one that would fail", STATE, () -> x.keep(0));
        Check.refuses(x, "keep(6)", INDEX, () -> x.keep(6));
        Check.refuses(x, "keep(-1)", INDEX, () -> x.keep(-1));
    }

    // Promise 14
    private static void burn() {
        Blankform x = new Blankform();
        Check.due("none", x.burn(), 0);
        Check.form(x, 0, "abc");
        x.keep(0);
        x.keep(0);
        Check.due("two", x.burn(), 2);
        Check.due("none left", x.house(1), 0);
        Check.refuses(x, "the first one is gone", INDEX, () -> x.letter(0));
        Check.due("numbered from 0 again", x.keep(0), 0);
    }

    // Promises 15 and 16
    private static void blankAndKnock() {
        Blankform x = new Blankform();
        Check.due("blank", x.blank(), -9);
        Check.due("blank again", x.blank(), -9);
        Check.due("counted", x.house(5), 2);
        Check.due("knock", x.knock(), 1);
        x.wipe();
        x.burn();
        Check.due("knock again", x.knock(), 2);
        Check.due("and again", x.knock(), 3);
        Check.due("all knocks", x.house(6), 3);
        Check.due("blanks stay", x.house(5), 2);
    }

    // Promise 17
    private static void typed() {
        Blankform x = new Blankform();
        Check.due("at first", x.typed(), "");
        x.say(8, 0, 9, 7, 6, 32);
        Check.due("typed", x.typed(), "{a}~ 9");
        x.form(0);
        x.text(0, -1, -1);
        Check.due("it stays", x.typed(), "{a}~ 9");
    }

    private static void faultOf(String text, int fault, int line) {
        Blankform x = Check.type(new Blankform(), text);
        Check.due("fault of " + text, x.fault(false), fault);
        Check.due("line of the fault of " + text, x.fault(true), line);
        Check.due("form of " + text, x.form(0) == -1, fault != -1);
    }

    // Promise 18
    private static void fault() {
        String[] whole = {"", "a", "{a}", "{a.b.c}", "{.}", "{0}", "{1}", "{2}", "{=a}", "{-=a.b-}", "{!}", "{!-}", "{-!-}",
            "{!--}", "{!#^/.|:>!-=$*<09~ a}", "{#a}{/}", "{#.}{/}", "{#0-}{-^-}{-/-}", "{-#a.b.c}{/}", "{>a}", "{->f-}",
            "{$a}{/}", "{-$b-}{/}", "{*}", "{-*-}", "{a|0}", "{a|0|1|2|3}", "{a|3:a}", "{.|3: 0f}", "{=2|9:a|8:  |7-}",
            "{#a}{#b}{#c}{$d}{/}{/}{/}{/}", "{#a}{^}{#b}{^}{/}{/}", "{$a}{#b}{^}{/}{/}", "{#a}{$b}{/}{^}{/}",
            "#^/.|:>!-=$*<~ ", "{$a}{/}{$b}{/}{$c}{/}{$d}{/}{$e}{/}{$f}{/}"};
        for (String text : whole) {
            faultOf(text, -1, -1);
        }
        String[] endless = {"{", "{-", "{a", "{a.", "{a.b.c", "{.", "{0", "{=", "{#", "{#a", "{a|", "{a|3", "{a|3:", "{a|3: ",
            "{a-", "{>", "{>a", "{$", "{*", "{*-", "{!", "{!-", "{-!a", "{#a}", "{#a}{^}", "{$a}", "{$a}{/", "{#a}{^",
            "{#a}{#a}{#a}{#a}", "{-^", "{/"};
        for (String text : endless) {
            boolean ends = text.equals("{-^") || text.equals("{/");
            faultOf(text, ends ? text.length() - 1 : text.length(), 0);
        }
        String[] refused = {"}", "a}", "{}", "{{", "{-}", "{--", "{a.}", "{a.0", "{a.b.c.", "{a..", "{..", "{.a", "{00", "{3", "{ ",
            "{a ", "{=}", "{==", "{=#", "{#}", "{#a|", "{##", "{#3", "{^", "{/", "{-/", "{>}", "{>0", "{>ab", "{>a|", "{$0", "{$ab",
            "{*a", "{*|", "{!{", "{!a{", "{a|a", "{a|}", "{a|0:}", "{a|0:-", "{a|0:.", "{a|0:<", "{a|00", "{a|0|0|0|0|", "{a|0::",
            "{a-a", "{a--", "{*--", "{a|0-|", "{#a}{^}{^", "{$a}{^", "{#a}{$b}{^", "{#a}{/}{/", "{#a}{/}{^", "{$a}{/}{$a",
            "{#a}{#a}{#a}{#a}{#", "{#a}{#a}{#a}{#a}{$", "{#a}{#b}{^}{^", "{$a}{/}{$b}{/}{$c}{/}{$d}{/}{$e}{/}{$f}{/}{$", "{~"};
        for (String text : refused) {
            faultOf(text, text.length() - 1, 0);
            faultOf(text + "}", text.length() - 1, 0);
        }
        faultOf("~a~{!~}{a~", 9, 3);
        faultOf("~~}~", 2, 2);
        faultOf("~{", 2, 1);
        faultOf("ab}{}}", 2, 0);
    }

    // Promise 19
    private static void ofData() {
        Blankform x = new Blankform();
        due(x, "none", 0, 0, 0, 0, 0, 0);
        Check.text(x, 0, "ab ");
        due(x, "a text", 0, 1, 3, 1, 0, 0);
        Check.text(x, 0, "");
        due(x, "the empty text", 0, 1, 0, 0, 0, 0);
        x.number(0, -1, -1, -12);
        due(x, "a number", 0, 2, 3, 1, -12, 0);
        x.number(0, -1, -1, 0);
        due(x, "the number 0", 0, 2, 1, 0, 0, 0);
        x.truth(0, -1, -1, true);
        due(x, "yes", 0, 3, 3, 1, 0, 0);
        x.truth(0, -1, -1, false);
        due(x, "no", 0, 3, 2, 0, 0, 0);
        x.row(0, -1, -1, 0);
        due(x, "the empty row", 0, 4, 0, 0, 0, 0);
        x.row(0, -1, -1, 3);
        due(x, "a row of an empty row", 0, 4, 1, 1, 0, 0);
        x.number(0, -1, -1, 3);
        x.take(0, -1, -1);
        x.number(0, 1, -1, 3);
        x.number(0, 5, -1, 3);
        due(x, "a map", 0, 5, 2, 1, 0, 34);
        x.take(0, 1, -1);
        x.take(0, 5, -1);
        due(x, "the empty map", 0, 5, 0, 0, 0, 0);
        x.number(2, 3, 4, 44);
        Check.due("deep", x.ofData(2, 3, 4, 3), 44);
        Check.due("a map inside", x.ofData(2, 3, -1, 4), 16);
        Check.due("nothing there", x.ofData(2, 4, 4, 0), 0);
        Check.due("through a number", x.ofData(2, 3, 4, 0), 2);
        x.number(2, 3, -1, 1);
        Check.due("no way", x.ofData(2, 3, 4, 0), 0);
        x.row(1, -1, -1, 0);
        x.row(1, -1, -1, 2);
        x.number(1, 0, -1, 8);
        Check.due("in the last map of a row", x.ofData(1, 0, -1, 3), 8);
        x.row(1, -1, -1, 2);
        Check.due("of the last one alone", x.ofData(1, 0, -1, 0), 0);
        Check.refuses(x, "what 5", ARGUMENT, () -> x.ofData(0, -1, -1, 5));
        Check.refuses(x, "what -1", ARGUMENT, () -> x.ofData(0, -1, -1, -1));
        refusesPaths(x, "ofData", (a, b, c) -> x.ofData(a, b, c, 0));
    }

    private static void due(Blankform x, String of, int name, int... due) {
        for (int what = 0; what <= 4; what++) {
            Check.due("ofData() " + what + " of " + of, x.ofData(name, -1, -1, what), due[what]);
        }
    }

    // Promise 20
    private static void words() {
        Blankform x = new Blankform();
        Check.due("none", x.words(0, -1, -1), "!");
        Check.text(x, 0, "{<}");
        Check.due("a text", x.words(0, -1, -1), "{<}");
        x.truth(1, 0, 0, true);
        Check.due("a truth", x.words(1, 0, 0), "yes");
        Check.due("a map", x.words(1, -1, -1), "");
        Check.due("no way", x.words(0, 0, -1), "!");
        Check.row(x, 2, "ab", "", "c");
        Check.due("a row", x.words(2, -1, -1), "abc");
        x.row(2, -1, -1, 3);
        x.row(2, -1, -1, 2);
        x.number(2, 0, -1, 5);
        Check.due("a row with a map and a row", x.words(2, -1, -1), "abc");
        Check.due("in its last map", x.words(2, 0, -1), "5");
        x.row(3, -1, -1, 0);
        Check.due("the empty row", x.words(3, -1, -1), "");
        Check.type(x, "f".repeat(60));
        for (int k = 0; k < 8; k++) {
            x.row(3, -1, -1, 1);
        }
        Check.due("a long row", x.words(3, -1, -1), "f".repeat(480));
        refusesPaths(x, "words", (a, b, c) -> x.words(a, b, c));
    }

    // Promise 21
    private static void escape() {
        Blankform x = new Blankform();
        Check.due("nothing", x.escape(), "");
        Check.due("all three", Check.type(x, "a{b}c<d~").escape(), "a<1b<2c<0d~");
        Check.due("digits behind <", Check.type(x, "<0<1").escape(), "<00<01");
        Check.due("60 signs", Check.type(x, "<".repeat(60)).escape(), "<0".repeat(60));
    }

    // Promise 22
    private static void unescape() {
        Blankform x = new Blankform();
        Check.due("nothing", x.unescape(), "");
        Check.due("all three", Check.type(x, "<1a<2<0").unescape(), "{a}<");
        Check.due("others stay", Check.type(x, "<3<a<<1<").unescape(), "<3<a<{<");
        Check.due("from the left, once", Check.type(x, "<01<00").unescape(), "<1<0");
        Check.due("braces stay", Check.type(x, "{}").unescape(), "{}");
    }

    // Promise 23
    private static void filter() {
        String[] due = {"ab  ~c", "  AB  ~C ", "9", "  ab  ~c ", " ", " ", "", " c~  ba  ", "  ab  ~c ", "  ab  ~c "};
        Blankform x = Check.type(new Blankform(), "  ab  ~c ");
        for (int filter = 0; filter <= 9; filter++) {
            Check.due("filter " + filter, x.filter(filter), due[filter]);
        }
        Check.due("typed stays", x.typed(), "  ab  ~c ");
        Check.type(x, "");
        for (int filter = 0; filter <= 9; filter++) {
            Check.due("filter " + filter + " of nothing", x.filter(filter), filter == 2 ? "0" : "");
        }
        Check.type(x, "fa");
        Check.due("the first", x.filter(4), "f");
        Check.due("the last", x.filter(5), "a");
        Check.due("blanks alone", Check.type(x, "   ").filter(0), "");
        Check.due("line ends stay", Check.type(x, " ~ ").filter(0), "~");
        Check.due("all that has an upper one", Check.type(x, "abcdef0{").filter(1), "ABCDEF0{");
        Check.due("60 signs", Check.type(x, "a".repeat(60)).filter(2), "60");
        Check.due("it is not escaped", Check.type(x, "<{}").filter(7), "}{<");
        Check.refuses(x, "filter 10", ARGUMENT, () -> x.filter(10));
        Check.refuses(x, "filter -1", ARGUMENT, () -> x.filter(-1));
    }

    // Promise 24
    private static void house() {
        Blankform x = new Blankform();
        Check.form(x, 2, "a");
        Check.form(x, 5, "a");
        Check.form(x, 5, "b");
        x.keep(5);
        x.number(1, -1, -1, 1);
        x.number(3, 1, 1, 1);
        x.number(3, 2, -1, 1);
        Check.type(x, "abc");
        x.strict(true);
        x.blank();
        x.knock();
        x.knock();
        int[] due = {2, 1, 2, 3, 1, 1, 2, 10};
        for (int what = 0; what <= 7; what++) {
            Check.due("house(" + what + ")", x.house(what), due[what]);
        }
        Check.refuses(x, "house(8)", ARGUMENT, () -> x.house(8));
        Check.refuses(x, "house(-1)", ARGUMENT, () -> x.house(-1));
    }

    // Promise 25
    private static void ofForm() {
        Blankform x = new Blankform();
        for (int what = 0; what <= 10; what++) {
            Check.due("not there, " + what, x.ofForm(3, what), what == 6 ? -1 : 0);
        }
        Check.form(x, 0, "{$b} {>a}{*}{/}");
        Check.form(x, 1, " ~{-a-}~ {=b|3}{#c-} {^}{-/} {>a}{*}{$d}{$f}{/}{/}{!}");
        x.heir(1, 0);
        int[] due = {1, 16, 2, 1, 1, 2, 0, 53, 40, 5, 2};
        for (int what = 0; what <= 10; what++) {
            Check.due("ofForm(1, " + what + ")", x.ofForm(1, what), due[what]);
        }
        Check.form(x, 2, "{a-}   {-b}");
        Check.due("eaten once by two", x.ofForm(2, 9), 3);
        Check.form(x, 2, " ~a {-b-} c ~{-!} ~ {d}~");
        Check.due("eaten ahead and behind", x.ofForm(2, 9), 4);
        Check.form(x, 2, "{!a-} ~0{-!-}{-!-} ");
        Check.due("eaten by comments", x.ofForm(2, 9), 3);
        Check.form(x, 2, "");
        Check.due("the empty form", x.ofForm(2, 0), 1);
        Check.due("its chain", x.ofForm(2, 10), 1);
        x.heir(2, 1);
        Check.due("a chain of three", x.ofForm(2, 10), 3);
        Check.refuses(x, "what 11", ARGUMENT, () -> x.ofForm(0, 11));
        Check.refuses(x, "what -1 of one that is not there", ARGUMENT, () -> x.ofForm(4, -1));
        Check.refuses(x, "form 6", INDEX, () -> x.ofForm(6, 0));
        Check.refuses(x, "form -1 goes ahead", INDEX, () -> x.ofForm(-1, 11));
    }

    // Promise 26; what a FORM gives is told by FillTest
    private static void fill() {
        Blankform x = new Blankform();
        Check.refuses(x, "not there", STATE, () -> x.fill(0));
        Check.form(x, 0, "a{b}c");
        Check.due("without data", x.fill(0), "ac");
        Check.text(x, 1, "<");
        Check.due("escaped", x.fill(0), "a<0c");
        Check.due("as it would be now", x.take(1, -1, -1), true);
        Check.due("without data again", x.fill(0), "ac");
        x.strict(true);
        Check.due("it fails", x.fill(0), "!");
        Check.refuses(x, "fill(6)", INDEX, () -> x.fill(6));
        Check.refuses(x, "fill(-1)", INDEX, () -> x.fill(-1));
    }

    // Promise 27; its numbers are told by FillTest
    private static void filling() {
        Blankform x = new Blankform();
        Check.refuses(x, "not there", STATE, () -> x.filling(0, 0));
        Check.form(x, 0, "{a}{b}{#c}{0}{/}{>b}{$a}{*}{$b}{/}{/}{>e}");
        Check.form(x, 1, "{a}");
        x.number(0, -1, -1, 12);
        Check.row(x, 2, "", "", "");
        int[] due = {0, 7, 1, 3, 1, 2, 2, 7};
        for (int what = 0; what <= 7; what++) {
            Check.due("filling(0, " + what + ")", x.filling(0, what), due[what]);
        }
        Check.refuses(x, "what 8", ARGUMENT, () -> x.filling(0, 8));
        Check.refuses(x, "what -1 of one that is not there", ARGUMENT, () -> x.filling(4, -1));
        Check.refuses(x, "form 6", INDEX, () -> x.filling(6, 0));
        Check.refuses(x, "form -1 goes ahead", INDEX, () -> x.filling(-1, 8));
    }

    // Promise 28
    private static void asks() {
        Blankform x = new Blankform();
        Check.refuses(x, "not there", STATE, () -> x.asks(0));
        Check.form(x, 0, "abc");
        Check.due("nothing", x.asks(0), 0);
        Check.form(x, 0, "{a.b.c}{#d.e}{=f}{/}{.}{0}{!b}{#.}{/}{$c}{/}");
        Check.due("first names", x.asks(0), 41);
        Check.form(x, 1, "{>a}{>d}{>b}");
        Check.due("of a part", x.asks(1), 41);
        Check.form(x, 2, "{b|3:c}{>b}");
        Check.due("of a part's part", x.asks(2), 43);
        Check.form(x, 3, "{e}{>c}");
        Check.due("a ring of parts", x.asks(1), 59);
        Check.form(x, 4, "{c}");
        Check.form(x, 3, "");
        x.heir(3, 4);
        Check.due("of a part's parent", x.asks(1), 45);
        Check.due("of its parent", x.asks(3), 4);
        Check.due("not of its heirs", x.asks(4), 4);
        Check.refuses(x, "asks(6)", INDEX, () -> x.asks(6));
        Check.refuses(x, "asks(-1)", INDEX, () -> x.asks(-1));
    }

    // Promise 29
    private static void block() {
        Blankform x = new Blankform();
        Check.refuses(x, "not there", STATE, () -> x.block(0, 0));
        Check.form(x, 0, "{#f}{$a}{/}{/}");
        Check.form(x, 1, "{$a}{$b}{/}{/}");
        Check.form(x, 2, "{$c}{/}{>d}");
        Check.form(x, 3, "{$d}{/}");
        Check.due("its own", x.block(0, 0), 0);
        Check.due("nobody's", x.block(0, 1), -1);
        x.heir(0, 1);
        x.heir(1, 2);
        Check.due("its own still", x.block(0, 0), 0);
        Check.due("its parent's", x.block(0, 1), 1);
        Check.due("the parent's parent's", x.block(0, 2), 2);
        Check.due("not that of a part", x.block(0, 3), -1);
        Check.due("not that of an heir", x.block(2, 0), -1);
        Check.refuses(x, "letter 6", ARGUMENT, () -> x.block(0, 6));
        Check.refuses(x, "letter -1 of one that is not there", ARGUMENT, () -> x.block(5, -1));
        Check.refuses(x, "form 6", INDEX, () -> x.block(6, 0));
        Check.refuses(x, "form -1 goes ahead", INDEX, () -> x.block(-1, 6));
    }

    // Promise 30
    private static void letter() {
        Blankform x = new Blankform();
        Check.refuses(x, "none", INDEX, () -> x.letter(0));
        keepAll(x, "abc", "", "{!}0~");
        Check.due("the first", x.letter(0), "abc");
        Check.due("an empty one", x.letter(1), "");
        Check.due("the third", x.letter(2), "0~");
        Check.refuses(x, "letter(3)", INDEX, () -> x.letter(3));
        Check.refuses(x, "letter(-1)", INDEX, () -> x.letter(-1));
    }

    private static void keepAll(Blankform x, String... forms) {
        for (String form : forms) {
            Check.form(x, 5, form);
            x.keep(5);
        }
    }

    private static void compared(String one, String other, String back, int shared, int gaps, int past) {
        Blankform x = new Blankform();
        keepAll(x, one, other);
        Check.due("back of " + one + " and " + other, x.back(0, 1), back);
        int[] due = {shared, gaps, past};
        for (int what = 0; what <= 2; what++) {
            Check.due("common() " + what + " of " + one + " and " + other, x.common(0, 1, what), due[what]);
        }
    }

    // Promise 31
    private static void back() {
        compared("abc", "abc", "abc", 3, 0, 0);
        compared("", "", "", 0, 0, 0);
        compared("abc", "", "{}", 0, 1, 3);
        compared("", "a", "{}", 0, 1, 1);
        compared("ab", "cd", "{}", 0, 1, 4);
        compared("a1b", "a2b", "a{}b", 2, 1, 2);
        compared("1a", "a", "{}a", 1, 1, 1);
        compared("a", "a1", "a{}", 1, 1, 1);
        compared("1a2", "3a4", "{}a{}", 1, 2, 4);
        compared("ab", "ba", "{}b{}", 1, 2, 2);
        compared("ba", "ab", "{}a{}", 1, 2, 2);
        compared("abab", "baba", "{}bab{}", 3, 2, 2);
        compared("a0b0c", "a1b1c", "a{}b{}c", 3, 2, 4);
        compared("aab", "ab", "a{}b", 2, 1, 1);
        compared("abcd", "acbd", "a{}c{}d", 3, 2, 2);
        Blankform x = new Blankform();
        keepAll(x, "a", "ab");
        Check.due("of one and the same", x.back(1, 1), "ab");
        Check.due("the other way round", x.back(1, 0), "a{}");
        Check.refuses(x, "one 2", INDEX, () -> x.back(2, 0));
        Check.refuses(x, "other 2", INDEX, () -> x.back(0, 2));
        Check.refuses(x, "one -1", INDEX, () -> x.back(-1, 0));
        Check.refuses(x, "other -1", INDEX, () -> x.back(0, -1));
        longLetters();
    }

    /** Two letters of 200 signs with as many gaps as there can be. */
    private static void longLetters() {
        Blankform x = new Blankform();
        Check.type(x, "a0".repeat(25));
        x.text(0, -1, -1);
        Check.type(x, "1a".repeat(25));
        x.text(1, -1, -1);
        keepAll(x, "{a}{a}{a}{a}", "{b}{b}{b}{b}");
        Check.due("a long letter", x.letter(1), "1a".repeat(100));
        Check.due("back of long ones", x.back(0, 1), "{}" + "a{}".repeat(100));
        Check.due("their gaps", x.common(0, 1, 1), 101);
        Check.due("gone past", x.common(0, 1, 2), 200);
    }

    // Promise 32
    private static void common() {
        Blankform x = new Blankform();
        Check.refuses(x, "no letters", INDEX, () -> x.common(0, 0, 0));
        keepAll(x, "ab", "b");
        Check.due("of one and the same", x.common(0, 0, 0), 2);
        Check.due("no gaps", x.common(0, 0, 1), 0);
        Check.due("gone past", x.common(1, 0, 2), 1);
        Check.refuses(x, "what 3", ARGUMENT, () -> x.common(0, 1, 3));
        Check.refuses(x, "what -1", ARGUMENT, () -> x.common(0, 1, -1));
        Check.refuses(x, "one 2 goes ahead", INDEX, () -> x.common(2, 0, 3));
        Check.refuses(x, "other -1", INDEX, () -> x.common(0, -1, 0));
    }

    // Promise 33
    private static void only() {
        Blankform x = new Blankform();
        Check.refuses(x, "not there", STATE, () -> x.only(0, 0));
        Check.form(x, 0, "{a}{#c}{a}{/}{b.a}");
        Check.text(x, 0, "aa");
        x.number(1, 0, -1, 123);
        x.number(2, 0, -1, 1);
        Check.due("all", x.only(0, 63), 6);
        Check.due("none", x.only(0, 0), 0);
        Check.due("one", x.only(0, 1), 2);
        Check.due("names in a scope are not data's", x.only(0, 4), 1);
        Check.due("others", x.only(0, 56), 0);
        Check.due("nothing is changed", x.house(7), 7);
        x.strict(true);
        Check.due("fails then", x.only(0, 6), -1);
        Check.due("does not fail", x.only(0, 7), 6);
        Check.refuses(x, "names 64", ARGUMENT, () -> x.only(0, 64));
        Check.refuses(x, "names -1 of one that is not there", ARGUMENT, () -> x.only(1, -1));
        Check.refuses(x, "form 6", INDEX, () -> x.only(6, 0));
        Check.refuses(x, "form -1 goes ahead", INDEX, () -> x.only(-1, 64));
    }

    // Promise 34
    private static void joined() {
        Blankform x = new Blankform();
        Check.refuses(x, "not there", STATE, () -> x.joined(0, 0));
        Check.form(x, 0, "a {b-}");
        Check.refuses(x, "the other one is not there", STATE, () -> x.joined(0, 1));
        Check.refuses(x, "the first one is not there", STATE, () -> x.joined(1, 0));
        Check.form(x, 1, " {-a}{$a}c{/}");
        x.number(1, -1, -1, 7);
        Check.due("eaten over the seam", x.joined(0, 1), "a 7c");
        Check.due("a block twice", x.joined(1, 1), "!");
        Check.due("the same", x.joined(0, 0), "a 7a 7");
        Check.form(x, 2, "{$a}{*}d{/}");
        x.heir(2, 1);
        Check.due("without a parent", x.joined(2, 0), "da 7");
        Check.form(x, 3, "{!" + "a".repeat(57) + "}");
        Check.due("more than 60 signs", x.joined(3, 3), "");
        x.strict(true);
        Check.due("it fails", x.joined(1, 0), "!");
        Check.due("nothing is changed", x.ofForm(2, 6), 1);
        Check.refuses(x, "one 6", INDEX, () -> x.joined(6, 0));
        Check.refuses(x, "other 6", INDEX, () -> x.joined(0, 6));
        Check.refuses(x, "other -1 goes ahead", INDEX, () -> x.joined(4, -1));
    }

    // Promise 35
    private static void wouldGive() {
        Blankform x = new Blankform();
        Check.due("nothing", x.wouldGive(true), 0);
        Check.due("a fault", Check.type(x, "{").wouldGive(false), -1);
        Check.due("a text", Check.type(x, "abc").wouldGive(true), 3);
        Check.due("what is missing", Check.type(x, "ab{c}").wouldGive(false), 2);
        Check.due("what is missing, in strict", x.wouldGive(true), -1);
        x.strict(true);
        Check.due("not as it is, but as is asked", x.wouldGive(false), 2);
        Check.due("strict stays", x.house(4), 1);
        Check.form(x, 0, "ab");
        Check.due("a part", Check.type(x, "{>a}{>a}").wouldGive(true), 4);
        Check.due("a part that is not there", Check.type(x, "{>b}").wouldGive(true), -1);
        Check.due("no form was made", x.house(0), 1);
        Check.due("super without a parent", Check.type(x, "{$a}a{*}{/}{*}").wouldGive(true), 1);
    }

    // Promise 36
    private static void isSound() {
        Blankform x = new Blankform();
        Check.due("a new one", x.isSound(), true);
        Check.type(x, "<0<1{}<");
        Check.due("with what is escaped", x.isSound(), true);
        Check.form(x, 0, "ab~");
        Check.form(x, 1, "{a}{#b}{.}{/}");
        Check.form(x, 2, "{>b}");
        Check.form(x, 3, "{>d}");
        Check.form(x, 4, "{$a}{*}{/}");
        Check.form(x, 5, "{#a}{/}{>e}");
        x.heir(4, 5);
        Check.text(x, 0, "<{");
        Check.row(x, 1, "a", "b");
        x.keep(0);
        x.keep(1);
        Check.due("with all", x.isSound(), true);
        x.strict(true);
        Check.due("with all, in strict", x.isSound(), true);
        x.wipe();
        Check.due("with failures", x.isSound(), true);
        x.burn();
        Check.due("without letters", x.isSound(), true);
    }

    // Promise 37
    private static void digest() {
        Blankform x = new Blankform();
        Check.due("of a new one", x.digest(), sum(x));
        x = busy();
        Check.due("of more", x.digest(), sum(x));
        x = busy();
        x.keep(2);
        Check.due("of one letter", x.digest(), sum(x));
        x.keep(0);
        x.strict(true);
        Check.type(x, "~{b}{<");
        Check.due("of two letters", x.digest(), sum(x));
        x = busy();
        x.keep(2);
        x.keep(0);
        x.keep(0);
        Check.type(x, "<{b}");
        Check.due("of three letters", x.digest(), sum(x));
        Check.due("asking changes nothing", x.digest(), x.digest());
    }

    private static Blankform busy() {
        Blankform x = new Blankform();
        Check.form(x, 0, "{$a}{a}{/}");
        Check.form(x, 2, "{$a}<{*}{b|3:c}{/}");
        x.heir(2, 0);
        x.number(0, -1, -1, 55);
        Check.row(x, 3, "a", "b");
        x.knock();
        x.blank();
        return x;
    }

    private static long sum(Blankform x) {
        long d = 7541;
        for (int what = 0; what <= 7; what++) {
            d = d * 31 + x.house(what);
        }
        d = d * 31 + x.fault(false);
        d = d * 31 + x.fault(true);
        for (int name = 0; name <= 5; name++) {
            for (int what = 0; what <= 4; what++) {
                d = d * 31 + x.ofData(name, -1, -1, what);
            }
            d = d * 31 + x.words(name, -1, -1).length();
        }
        for (int form = 0; form <= 5; form++) {
            for (int what = 0; what <= 10; what++) {
                d = d * 31 + x.ofForm(form, what);
            }
            for (int what = 0; x.ofForm(form, 0) == 1 && what <= 7; what++) {
                d = d * 31 + x.filling(form, what);
            }
            d = x.ofForm(form, 0) == 1 ? d * 31 + x.asks(form) : d;
        }
        int letters = x.house(1);
        for (int letter = 0; letter < letters; letter++) {
            d = d * 31 + x.letter(letter).length();
        }
        for (int what = 0; letters >= 2 && what <= 2; what++) {
            d = d * 31 + x.common(0, 1, what);
        }
        d = letters >= 2 ? d * 31 + x.back(0, 1).length() : d;
        d = d * 31 + x.escape().length();
        d = d * 31 + x.wouldGive(false);
        d = d * 31 + x.wouldGive(true);
        return d * 31 + (x.isSound() ? 1 : 0);
    }
}
