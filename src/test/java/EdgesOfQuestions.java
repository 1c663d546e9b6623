import java.util.function.Supplier;

/** Promises 17 to 29 of the document: what is asked of what is typed, of data and of forms. */
final class EdgesOfQuestions {

    private static final Class<IllegalArgumentException> ARGUMENT = IllegalArgumentException.class;
    private static final Supplier<Blankform> ALL_FORMS = EdgesOfCalls::allForms;

    private EdgesOfQuestions() {
    }

    static void test() {
        promise17();
        promise18();
        promise19();
        promise20();
        promise21();
        promise22();
        promise23();
        promise24();
        promise25();
        promise26();
        promise27();
        promise28();
        promise29();
    }

    private static void promise17() {
        Sentence.of("## Promise 17: ");
        Sentence.is("Returns TYPED.");
        Check.due("at first", new Blankform().typed(), "");
        for (String text : new String[] {"a", " ", "~", "{}<", "a".repeat(59), "9~".repeat(30)}) {
            Blankform x = Check.type(new Blankform(), text);
            Check.due("typed", x.typed(), text);
            x.form(0);
            x.text(0, -1, -1);
            x.row(0, -1, -1, 1);
            x.wouldGive(true);
            x.digest();
            Check.due("it stays", x.typed(), text);
        }
        Whole.stays("typed()", Desks.BUSY, x -> x.typed());
    }

    private static void promise18() {
        Sentence.of("## Promise 18: ");
        Sentence.is("- `isLine`: whether its LINE, otherwise itself");
        Blankform x = Check.type(new Blankform(), "~a~}~");
        Check.due("itself", x.fault(false), 3);
        Check.due("its line", x.fault(true), 2);
        Sentence.is("Returns FAULT of TYPED as a FORM (its LINE: NONE without one).");
        Check.due("of nothing", new Blankform().fault(false), -1);
        Check.due("its line", new Blankform().fault(true), -1);
        x = Check.type(new Blankform(), "~~{a}~");
        Check.due("of a form with lines", x.fault(false), -1);
        Check.due("its line", x.fault(true), -1);
        x = Check.type(new Blankform(), "}");
        Check.due("at the first sign", x.fault(false), 0);
        Check.due("its line", x.fault(true), 0);
        x = Check.type(new Blankform(), "~".repeat(59) + "{");
        Check.due("behind the last sign", x.fault(false), 60);
        Check.due("its line", x.fault(true), 59);
        Whole.stays("fault()", Desks.BUSY, y -> y.fault(true));
    }

    private static void ofDataIs(Blankform x, int name, int kind, int count, int shown, int number, int names) {
        int[] due = {kind, count, shown, number, names};
        for (int what = 0; what <= 4; what++) {
            Check.due("ofData(" + name + ", " + what + ")", x.ofData(name, -1, -1, what), due[what]);
        }
    }

    private static void promise19() {
        Sentence.of("## Promise 19: ");
        EdgesOfCalls.path((y, a, b, c) -> y.ofData(a, b, c, 0));
        Sentence.is("- `what`: of the VALUE at that PATH 0 its kind: 0 none, 1 TEXT, 2 NUMBER, 3 TRUTH, 4 ROW, 5 MAP; 1 how many"
                + " VALUES, or NAMES, or signs of WORDS, as FILTER 2 tells; 2 1 if a SECTION over it would show what is ahead of ELSE,"
                + " otherwise 0; 3 of a NUMBER that, otherwise 0; 4 of a MAP the set of its NAMES, otherwise 0");
        Blankform x = new Blankform();
        ofDataIs(x, 0, 0, 0, 0, 0, 0);
        x.text(0, -1, -1);
        ofDataIs(x, 0, 1, 0, 0, 0, 0);
        Check.text(x, 0, " ");
        ofDataIs(x, 0, 1, 1, 1, 0, 0);
        Check.text(x, 0, "5".repeat(60));
        ofDataIs(x, 0, 1, 60, 1, 0, 0);
        for (int number : new int[] {0, 1, -1, 9999, -9999, 10}) {
            x.number(0, -1, -1, number);
            ofDataIs(x, 0, 2, String.valueOf(number).length(), number == 0 ? 0 : 1, number, 0);
        }
        x.truth(0, -1, -1, true);
        ofDataIs(x, 0, 3, 3, 1, 0, 0);
        x.truth(0, -1, -1, false);
        ofDataIs(x, 0, 3, 2, 0, 0, 0);
        x.row(0, -1, -1, 0);
        ofDataIs(x, 0, 4, 0, 0, 0, 0);
        for (int count = 1; count <= 8; count++) {
            x.row(0, -1, -1, count % 3 + 1);
            ofDataIs(x, 0, 4, count, 1, 0, 0);
        }
        x.take(0, -1, -1);
        for (int name = 0; name <= 5; name++) {
            x.number(0, name, -1, 7);
            ofDataIs(x, 0, 5, name + 1, 1, 0, (2 << name) - 1);
        }
        for (int name = 0; name <= 5; name++) {
            x.take(0, name, -1);
        }
        ofDataIs(x, 0, 5, 0, 0, 0, 0);
        Sentence.is("Returns that.");
        x = Desks.busy();
        Check.due("deep", x.ofData(4, 1, 2, 3), 7);
        Check.due("a map that is deep", x.ofData(4, 1, -1, 4), 4);
        Check.due("in the last map of a row", x.ofData(3, 0, -1, 3), 12);
        for (int what = 0; what <= 4; what++) {
            int each = what;
            Whole.stays("ofData(4, 1, 2, " + what + ")", Desks.BUSY, y -> y.ofData(4, 1, 2, each));
            Check.due("none, " + what, x.ofData(5, 1, 2, what), 0);
        }
        Sentence.is("Throws `IllegalArgumentException` if a is not 0 to 5, b or c not NONE to 5, or c is not NONE, but b is, or what is"
                + " not 0 to 4");
        EdgesOfCalls.refusesPaths((y, a, b, c) -> y.ofData(a, b, c, 0));
        EdgesOfCalls.takes(Desks.BUSY, 0, 4, (y, what) -> y.ofData(5, -1, -1, what));
        EdgesOfCalls.refuses(Desks.BUSY, ARGUMENT, 0, 4, (y, what) -> y.ofData(0, -1, -1, what));
        EdgesOfCalls.refuses(Desks.BUSY, ARGUMENT, 0, 4, (y, what) -> y.ofData(5, 1, 2, what));
    }

    private static void promise20() {
        Sentence.of("## Promise 20: ");
        EdgesOfCalls.path((y, a, b, c) -> y.words(a, b, c));
        Sentence.is("Returns WORDS of the VALUE at that PATH; \"!\", if there is none.");
        Blankform x = Desks.busy();
        Check.due("a text", x.words(0, -1, -1), "<ab");
        Check.due("a number", x.words(1, -1, -1), "-7");
        Check.due("a truth", x.words(2, -1, -1), "yes");
        Check.due("a row", x.words(3, -1, -1), "b ");
        Check.due("a map", x.words(4, -1, -1), "");
        Check.due("deep", x.words(4, 1, 2), "7");
        Check.due("none", x.words(5, -1, -1), "!");
        Check.due("none in a map", x.words(4, 1, 3), "!");
        Check.due("none on the way", x.words(5, 1, 2), "!");
        Check.due("no map on the way", x.words(0, 1, -1), "!");
        Check.due("a text that looks so", Check.text(x, 5, "!") + x.words(5, -1, -1), "1!");
        Check.due("the empty text", Check.text(x, 5, "") + x.words(5, -1, -1), "0");
        Whole.stays("words(4, 1, 2)", Desks.BUSY, y -> y.words(4, 1, 2));
        Sentence.is("Throws `IllegalArgumentException` if a is not 0 to 5, b or c not NONE to 5, or c is not NONE, but b is");
        EdgesOfCalls.refusesPaths((y, a, b, c) -> y.words(a, b, c));
    }

    private static void promise21() {
        Sentence.of("## Promise 21: ");
        Sentence.is("Returns TYPED, ESCAPED.");
        Check.due("nothing", new Blankform().escape(), "");
        Check.due("all that is escaped", Check.type(new Blankform(), "a{b}<~1").escape(), "a<1b<2<0~1");
        Check.due("60 signs", Check.type(new Blankform(), "{}<".repeat(20)).escape(), "<1<2<0".repeat(20));
        Blankform x = Check.type(new Blankform(), "a<");
        for (int k = 0; k < 3; k++) {
            Check.due("asked again", x.escape(), "a<0");
            Check.due("with other questions in between", x.unescape() + x.filter(7), "a<<a");
        }
        Whole.stays("escape()", Desks.BUSY, y -> y.escape());
    }

    private static void promise22() {
        Sentence.of("## Promise 22: ");
        Sentence.is("Returns TYPED, unescaped.");
        Check.due("nothing", new Blankform().unescape(), "");
        Check.due("all that is", Check.type(new Blankform(), "a<1b<2<0~1<").unescape(), "a{b}<~1<");
        Check.due("60 signs", Check.type(new Blankform(), "<1<2<0".repeat(10)).unescape(), "{}<".repeat(10));
        Blankform x = Check.type(new Blankform(), "b<1");
        x.text(0, -1, -1);
        for (int k = 0; k < 3; k++) {
            Check.due("asked again", x.unescape(), "b{");
            Check.due("with other questions in between", x.words(0, -1, -1) + x.escape(), "b<1b<01");
        }
        Whole.stays("unescape()", Desks.BUSY, y -> y.unescape());
    }

    private static void promise23() {
        Sentence.of("## Promise 23: ");
        Sentence.is("- `filter`: a FILTER");
        EdgesOfCalls.takes(Desks.BUSY, 0, 9, (y, filter) -> y.filter(filter));
        Sentence.is("Returns WORDS of TYPED (as a TEXT) behind that FILTER, without ARGUMENT.");
        String[] due = {"a ~{b", " A ~{B ", "7", " a ~{b ", " ", " ", "", " b{~ a ", " a ~{b ", " a ~{b "};
        for (int filter = 0; filter <= 9; filter++) {
            int each = filter;
            Check.due("filter " + filter, Check.type(new Blankform(), " a ~{b ").filter(filter), due[filter]);
            Check.due("filter " + filter + " of nothing", new Blankform().filter(filter), filter == 2 ? "0" : "");
            Check.due("filter " + filter + " of one", Check.type(new Blankform(), "0").filter(filter),
                    filter == 2 ? "1" : filter == 6 ? "" : "0");
            Whole.stays("filter(" + filter + ")", Desks.BUSY, y -> y.filter(each));
        }
        Check.due("60 blanks", Check.type(new Blankform(), " ".repeat(60)).filter(0), "");
        Check.due("60 signs", Check.type(new Blankform(), "f".repeat(60)).filter(1), "F".repeat(60));
        Sentence.is("Throws `IllegalArgumentException` if filter is not 0 to 9");
        EdgesOfCalls.refuses(Desks.BUSY, ARGUMENT, 0, 9, (y, filter) -> y.filter(filter));
    }

    private static void promise24() {
        Sentence.of("## Promise 24: ");
        Sentence.is("- `what`: 0 how many FORMS are there, 1 LETTERS, 2 NAMES in DATA, 3 how many SIGNS are TYPED, 4 1 if it is STRICT,"
                + " otherwise 0, 5 how often blank() told -9, 6 how often it was knocked, 7 the set of NAMES in DATA");
        int[] due = {3, 3, 5, 8, 1, 2, 1, 31};
        Blankform x = Desks.busy();
        for (int what = 0; what <= 7; what++) {
            Check.due("house(" + what + ")", x.house(what), due[what]);
            Check.due("house(" + what + ") of a new one", new Blankform().house(what), 0);
        }
        x = new Blankform();
        for (int k = 0; k <= 5; k++) {
            Check.form(x, k, "");
            Check.due("forms", x.house(0), k + 1);
            x.number(5 - k, -1, -1, 0);
            Check.due("names", x.house(2), k + 1);
            Check.due("the set of names", x.house(7), 64 - (32 >> k));
        }
        Check.form(x, 5, "");
        Check.due("the same form again", x.house(0), 6);
        x.number(5, -1, -1, 0);
        Check.due("the same name again", x.house(2), 6);
        for (int k = 0; k < 8; k++) {
            x.keep(k % 6);
            Check.due("letters", x.house(1), k + 1);
        }
        Check.due("60 signs", Check.type(x, "a".repeat(60)).house(3), 60);
        Check.due("no signs", Check.type(x, "").house(3), 0);
        Sentence.is("Returns that.");
        for (int what = 0; what <= 7; what++) {
            int each = what;
            Whole.stays("house(" + what + ")", Desks.BUSY, y -> y.house(each));
            Check.due("asked twice", x.house(what), x.house(what));
        }
        Sentence.is("Throws `IllegalArgumentException` if what is not 0 to 7");
        EdgesOfCalls.refuses(Desks.BUSY, ARGUMENT, 0, 7, (y, what) -> y.house(what));
    }

    private static void ofFormIs(Blankform x, int form, int... due) {
        for (int what = 0; what <= 10; what++) {
            Check.due("ofForm(" + form + ", " + what + ")", x.ofForm(form, what), due[what]);
        }
    }

    private static void promise25() {
        Sentence.of("## Promise 25: ");
        EdgesOfCalls.formIs("- `form`: a FORM", Desks.NEW, (y, form) -> y.ofForm(form, 0));
        Sentence.is("- `what`: 0 1 if it is there, otherwise 0, 1 TEXTS and TAGS, 2 places (RAW ones, too), 3 SECTIONS, 4 PARTS,"
                + " 5 BLOCKS, 6 PARENT (NONE), 7 how many SIGNS it was typed with, 8 the set of letters of its BLOCKS, 9 how many SIGNS"
                + " were EATEN, 10 how long its CHAIN is (0 for 1 to 5, 7 to 10, and NONE for 6, if it is not there)");
        Blankform x = new Blankform();
        for (int form = 0; form <= 5; form++) {
            ofFormIs(x, form, 0, 0, 0, 0, 0, 0, -1, 0, 0, 0, 0);
        }
        Check.form(x, 0, "");
        ofFormIs(x, 0, 1, 0, 0, 0, 0, 0, -1, 0, 0, 0, 1);
        Check.form(x, 1, " ~{!-}~ {-!} a");
        ofFormIs(x, 1, 1, 5, 0, 0, 0, 0, -1, 14, 0, 2, 1);
        x.heir(1, 0);
        Check.form(x, 5, "{a}{=b|3}{.}{#a}{0}{^}{/}{#.}{/}{>a}{$a}{/}{$f}{*}{/}{!}");
        x.heir(5, 1);
        ofFormIs(x, 5, 1, 16, 4, 2, 1, 2, 1, 56, 33, 0, 3);
        Check.form(x, 5, "{$a}{$b}{$c}{/}{/}{/}{$d}{/}{$e}{/}{$f}{/}");
        ofFormIs(x, 5, 1, 12, 0, 0, 0, 6, 1, 42, 63, 0, 3);
        Check.form(x, 5, "a{-!}".repeat(12));
        ofFormIs(x, 5, 1, 24, 0, 0, 0, 0, 1, 60, 0, 0, 3);
        Check.form(x, 5, "~{-!-} ".repeat(8));
        ofFormIs(x, 5, 1, 17, 0, 0, 0, 0, 1, 56, 0, 16, 3);
        Check.form(x, 5, "{");
        ofFormIs(x, 5, 1, 17, 0, 0, 0, 0, 1, 56, 0, 16, 3);
        Check.form(x, 3, "{");
        ofFormIs(x, 3, 0, 0, 0, 0, 0, 0, -1, 0, 0, 0, 0);
        Sentence.is("Returns that.");
        for (int what = 0; what <= 10; what++) {
            int each = what;
            Whole.stays("ofForm(1, " + what + ")", Desks.BUSY, y -> y.ofForm(1, each));
            Whole.stays("ofForm(4, " + what + ")", Desks.BUSY, y -> y.ofForm(4, each));
        }
        Check.due("a chain of six", chainOfSix().ofForm(5, 10), 6);
        EdgesOfCalls.refusesForms("Throws `IndexOutOfBoundsException` if form is not 0 to 5", (y, form) -> y.ofForm(form, 0));
        EdgesOfCalls.refuses(Desks.BUSY, EdgesOfCalls.INDEX, 0, 5, (y, form) -> y.ofForm(form, 11));
        Sentence.is("Throws `IllegalArgumentException` if what is not 0 to 10");
        EdgesOfCalls.refuses(Desks.BUSY, ARGUMENT, 0, 10, (y, what) -> y.ofForm(0, what));
        EdgesOfCalls.refuses(Desks.BUSY, ARGUMENT, 0, 10, (y, what) -> y.ofForm(4, what));
    }

    private static Blankform chainOfSix() {
        Blankform x = EdgesOfCalls.allForms();
        for (int form = 1; form <= 5; form++) {
            x.heir(form, form - 1);
        }
        return x;
    }

    private static void promise26() {
        Sentence.of("## Promise 26: ");
        EdgesOfCalls.formIs("- `form`: a FORM", ALL_FORMS, (y, form) -> y.fill(form));
        Sentence.is("Returns what it gives, filled now; \"!\", if it fails.");
        Blankform x = new Blankform();
        Check.form(x, 0, "");
        Check.due("nothing", x.fill(0), "");
        Check.form(x, 0, "a{b}!");
        Check.due("without data", x.fill(0), "a!");
        x.number(1, -1, -1, 5);
        Check.due("with data", x.fill(0), "a5!");
        x.number(1, -1, -1, -6);
        Check.due("with other data", x.fill(0), "a-6!");
        x.wipe();
        Check.due("without them again", x.fill(0), "a!");
        x.strict(true);
        Check.due("failure 1", x.fill(0), "!");
        Check.form(x, 0, "{>a}");
        Check.due("failure 2", x.fill(0), "!");
        Check.text(x, 1, "a".repeat(60));
        Check.form(x, 0, "{b}{b}{b}{b}");
        Check.due("failure 3", x.fill(0), "!");
        Check.form(x, 0, "!");
        Check.due("a letter that looks so", x.fill(0), "!");
        Check.due("which does not fail", x.filling(0, 0), 0);
        for (int form = 0; form <= 2; form++) {
            int each = form;
            Whole.stays("fill(" + form + ")", Desks.BUSY, y -> y.fill(each));
        }
        EdgesOfCalls.refusesForms("Throws `IndexOutOfBoundsException` if form is not 0 to 5", (y, form) -> y.fill(form));
        EdgesOfCalls.refusesFormsNotThere("Throws `IllegalStateException` if it is not there", (y, form) -> y.fill(form));
    }

    private static void promise27() {
        Sentence.of("## Promise 27: ");
        EdgesOfCalls.formIs("- `form`: a FORM", ALL_FORMS, (y, form) -> y.filling(form, 0));
        Sentence.is("- `what`: of filling it now 0 FAILURE (0 without one), 1 how many VALUES of PATHS were looked for (of places and"
                + " SECTIONS, of those that fail, too), 2 how many of these were MISSING (ahead of FILTERS), 3 ROUNDS, 4 PARTS that"
                + " were there, 5 BLOCKS and SUPERS that gave what is in one (an empty one, too), 6 the most that were open, one in"
                + " another, 7 the length of the LETTER (NONE, if it fails; 1 to 6 up to the FAILURE, with what had begun ahead of"
                + " it)");
        Blankform x = new Blankform();
        Check.form(x, 0, "");
        EdgesOfFilling.counted(x, 0, "nothing", 0, 0, 0, 0, 0, 0, 0, 0);
        Check.row(x, 1, "a", "b");
        x.number(2, 0, -1, 5);
        Check.form(x, 0, "{b}{=d|2}{#b}{.}{e|3:c}{/}{#c}{a}{/}{#d}{f}{/}");
        EdgesOfFilling.counted(x, 0, "places and sections", 0, 10, 4, 2, 0, 0, 1, 8);
        Check.form(x, 1, "");
        Check.form(x, 0, "{>b}{>b}{>c}{$a}{*}{/}{$b}{$c}{>b}{/}{/}");
        EdgesOfFilling.counted(x, 0, "parts and blocks", 0, 0, 0, 0, 3, 3, 3, 0);
        Check.form(x, 3, "{$a}c{*}{/}");
        x.heir(3, 0);
        EdgesOfFilling.counted(x, 3, "a super", 0, 0, 0, 0, 3, 4, 3, 1);
        x.strict(true);
        Check.form(x, 0, "a{#b}{.}{$a}{f}{/}{/}{#b}{/}{>b}");
        EdgesOfFilling.counted(x, 0, "up to failure 1", 1, 3, 1, 1, 0, 1, 2, -1);
        Check.form(x, 0, "a{#b}{#f}{>a}{^}{>b}{/}{>a}{/}{c}");
        EdgesOfFilling.counted(x, 0, "up to failure 2", 2, 10, 5, 5, 8, 0, 10, -1);
        Check.text(x, 3, "d".repeat(60));
        Check.form(x, 0, "{#b}{d}{d}{>b}{/}{c}");
        EdgesOfFilling.counted(x, 0, "up to failure 3", 3, 5, 0, 2, 1, 0, 2, -1);
        Check.form(x, 0, "{d|6:9}{f|2}");
        EdgesOfFilling.counted(x, 0, "missing ahead of filters", 0, 2, 1, 0, 0, 0, 0, 10);
        x.row(4, -1, -1, 0);
        Check.form(x, 0, "{e|4}");
        EdgesOfFilling.counted(x, 0, "missing behind filters", 1, 1, 0, 0, 0, 0, 0, -1);
        Sentence.is("Returns that.");
        for (int what = 0; what <= 7; what++) {
            int each = what;
            for (int form = 0; form <= 2; form++) {
                int one = form;
                Whole.stays("filling(" + form + ", " + what + ")", Desks.BUSY, y -> y.filling(one, each));
            }
        }
        Check.due("filled now", x.filling(0, 0) + x.row(4, -1, -1, 2) + x.filling(0, 0), 2);
        EdgesOfCalls.refusesForms("Throws `IndexOutOfBoundsException` if form is not 0 to 5", (y, form) -> y.filling(form, 0));
        EdgesOfCalls.refuses(Desks.BUSY, EdgesOfCalls.INDEX, 0, 5, (y, form) -> y.filling(form, 8));
        Sentence.is("Throws `IllegalArgumentException` if what is not 0 to 7");
        EdgesOfCalls.refuses(Desks.BUSY, ARGUMENT, 0, 7, (y, what) -> y.filling(0, what));
        EdgesOfCalls.refuses(Desks.BUSY, ARGUMENT, 0, 7, (y, what) -> y.filling(4, what));
        EdgesOfCalls.refusesFormsNotThere("Throws `IllegalStateException` if it is not there", (y, form) -> y.filling(form, 7));
    }

    private static void promise28() {
        Sentence.of("## Promise 28: ");
        EdgesOfCalls.formIs("- `form`: a FORM", ALL_FORMS, (y, form) -> y.asks(form));
        Sentence.is("Returns what it ASKS for.");
        Blankform x = Desks.busy();
        Check.due("of one", x.asks(0), 2);
        Check.due("of its parent", x.asks(1), 2);
        Check.due("of a part's parent", x.asks(2), 10);
        Check.form(x, 0, "");
        Check.due("nothing", x.asks(0), 0);
        Check.form(x, 0, "{a}{b}{c}{d}{e}{f}");
        Check.due("all", x.asks(0), 63);
        for (int form = 0; form <= 2; form++) {
            int each = form;
            Whole.stays("asks(" + form + ")", Desks.BUSY, y -> y.asks(each));
        }
        EdgesOfCalls.refusesForms("Throws `IndexOutOfBoundsException` if form is not 0 to 5", (y, form) -> y.asks(form));
        EdgesOfCalls.refusesFormsNotThere("Throws `IllegalStateException` if it is not there", (y, form) -> y.asks(form));
    }

    private static void promise29() {
        Sentence.of("## Promise 29: ");
        EdgesOfCalls.formIs("- `form`: a FORM", ALL_FORMS, (y, form) -> y.block(form, 0));
        Sentence.is("- `letter`: a letter, 0 to 5");
        EdgesOfCalls.takes(ALL_FORMS, 0, 5, (y, letter) -> y.block(0, letter));
        Sentence.is("Returns the first one of its CHAIN that has a BLOCK of that letter (whether that would come up or not); NONE"
                + " without one.");
        Blankform x = chainOfSix();
        for (int letter = 0; letter <= 5; letter++) {
            Check.form(x, letter, "{#f}{$" + "abcdef".charAt(letter) + "}{/}{/}");
        }
        for (int form = 0; form <= 5; form++) {
            for (int letter = 0; letter <= 5; letter++) {
                Check.due("letter " + letter + " of " + form, x.block(form, letter), letter <= form ? letter : -1);
            }
        }
        Check.form(x, 3, "{$f}{$e}{$d}{$a}{/}{/}{/}{/}{>a}");
        Check.due("its own goes ahead", x.block(5, 5), 5);
        Check.due("the next one's", x.block(4, 5), 3);
        Check.due("deep inside", x.block(4, 0), 3);
        Check.due("a letter of its own, not of its heir", x.block(3, 4), 3);
        x.lone(3);
        Check.due("behind a cut", x.block(5, 1), -1);
        Check.form(x, 3, "");
        Check.due("of the empty one", x.block(3, 5), -1);
        Whole.stays("block(1, 0)", Desks.BUSY, y -> y.block(1, 0));
        EdgesOfCalls.refusesForms("Throws `IndexOutOfBoundsException` if form is not 0 to 5", (y, form) -> y.block(form, 0));
        EdgesOfCalls.refuses(Desks.BUSY, EdgesOfCalls.INDEX, 0, 5, (y, form) -> y.block(form, 6));
        Sentence.is("Throws `IllegalArgumentException` if letter is not 0 to 5");
        EdgesOfCalls.refuses(Desks.BUSY, ARGUMENT, 0, 5, (y, letter) -> y.block(0, letter));
        EdgesOfCalls.refuses(Desks.BUSY, ARGUMENT, 0, 5, (y, letter) -> y.block(4, letter));
        EdgesOfCalls.refusesFormsNotThere("Throws `IllegalStateException` if it is not there", (y, form) -> y.block(form, 0));
    }
}
