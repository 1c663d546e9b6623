import java.util.List;
import java.util.function.Consumer;
import java.util.function.Supplier;

/** Promises 1 to 16 of the document: a new object, what is typed and told, forms and letters. */
final class EdgesOfCalls {

    static final Class<IllegalArgumentException> ARGUMENT = IllegalArgumentException.class;
    static final Class<IllegalStateException> STATE = IllegalStateException.class;
    static final Class<IndexOutOfBoundsException> INDEX = IndexOutOfBoundsException.class;
    static final int[] NO_FORMS = {-1, 6, -2, 7, 100, Integer.MIN_VALUE, Integer.MAX_VALUE};

    private EdgesOfCalls() {
    }

    static void test() {
        promise1();
        promise2();
        promise3();
        promise4();
        promise5();
        promise6();
        promise7();
        promise8();
        promise9();
        promise10();
        promise11();
        promise12();
        promise13();
        promise14();
        promise15();
        promise16();
    }

    interface PathCall {
        void at(Blankform x, int a, int b, int c);
    }

    /** The arguments of a PATH: what is taken, what is refused; what is refused changes nothing. */
    static void path(PathCall call) {
        Sentence.is("- `a`: the first NAME");
        for (int a = 0; a <= 5; a++) {
            int each = a;
            Check.due("a " + a, Whole.thrown(Desks.busy(), x -> call.at(x, each, -1, -1)), null);
        }
        Sentence.is("- `b`: the second one, or NONE");
        for (int b = -1; b <= 5; b++) {
            int each = b;
            Check.due("b " + b, Whole.thrown(Desks.busy(), x -> call.at(x, 5, each, -1)), null);
        }
        Sentence.is("- `c`: the third one, or NONE");
        for (int c = -1; c <= 5; c++) {
            int each = c;
            Check.due("c " + c, Whole.thrown(Desks.busy(), x -> call.at(x, 5, 0, each)), null);
        }
    }

    static void refusesPaths(PathCall call) {
        int[][] wrong = {{-1, -1, -1}, {6, -1, -1}, {-2, 0, 0}, {0, -2, -1}, {0, 6, -1}, {0, -2, 0}, {0, 0, -2}, {0, 0, 6},
            {0, -1, 0}, {0, -1, 5}, {0, -1, 6}, {6, 6, 6}, {Integer.MIN_VALUE, 0, 0}, {Integer.MAX_VALUE, 0, 0},
            {0, Integer.MIN_VALUE, -1}, {0, Integer.MAX_VALUE, 0}, {0, 0, Integer.MIN_VALUE}, {0, 0, Integer.MAX_VALUE}};
        for (int[] p : wrong) {
            Whole.refuses("at " + p[0] + ", " + p[1] + ", " + p[2], Desks.BUSY, ARGUMENT, x -> call.at(x, p[0], p[1], p[2]));
        }
    }

    interface NumberCall {
        void of(Blankform x, int number);
    }

    /** All numbers from the least one to the greatest one are taken. */
    static void takes(Supplier<Blankform> maker, int least, int most, NumberCall call) {
        for (int number = least; number <= most; number++) {
            int each = number;
            Check.due("with " + number, Whole.thrown(maker.get(), x -> call.of(x, each)), null);
        }
    }

    /** The numbers next to the least and the greatest one are refused, and so are the farthest ones. */
    static void refuses(Supplier<Blankform> maker, Class<? extends Exception> due, int least, int most, NumberCall call) {
        for (int number : new int[] {least - 1, most + 1, least - 2, most + 2, Integer.MIN_VALUE, Integer.MAX_VALUE}) {
            Whole.refuses("with " + number, maker, due, x -> call.of(x, number));
        }
    }

    /** FORMS that are there are taken, numbers that are no FORMS refused. */
    static void formIs(String sentence, Supplier<Blankform> maker, NumberCall call) {
        Sentence.is(sentence);
        takes(maker, 0, 5, call);
    }

    static void refusesForms(String sentence, NumberCall call) {
        Sentence.is(sentence);
        refuses(Desks.BUSY, INDEX, 0, 5, call);
    }

    /** FORMS that are not there are refused; the empty one that is there is taken. */
    static void refusesFormsNotThere(String sentence, NumberCall call) {
        Sentence.is(sentence);
        for (int form = 0; form <= 5; form++) {
            int each = form;
            Whole.refuses("of no forms at all, " + form, Desks.NEW, STATE, x -> call.of(x, each));
        }
        for (int form = 3; form <= 5; form++) {
            int each = form;
            Whole.refuses("not there, " + form, Desks.BUSY, STATE, x -> call.of(x, each));
            Blankform x = Desks.busy();
            Check.form(x, form, "{");
            Check.due("a form with a fault is not there", Whole.thrown(x, y -> call.of(y, each)), STATE);
            Check.form(x, form, "");
            Check.due("the empty form is there", Whole.thrown(x, y -> call.of(y, each)), null);
        }
    }

    /** All six FORMS are there. */
    static Blankform allForms() {
        Blankform x = Desks.busy();
        Check.form(x, 3, "d");
        Check.form(x, 4, "e");
        Check.form(x, 5, "");
        return x;
    }

    private static void promise1() {
        Sentence.of("## Promise 1: ");
        Sentence.is("Creates a desk without data and FORMS.");
        Blankform x = new Blankform();
        for (int what = 0; what <= 7; what++) {
            Check.due("house(" + what + ")", x.house(what), 0);
        }
        Check.due("typed", x.typed(), "");
        Check.due("strict", x.strict(false), false);
        Check.due("wiped", x.wipe(), 0);
        Check.due("burnt", x.burn(), 0);
        for (int form = 0; form <= 5; form++) {
            for (int what = 0; what <= 10; what++) {
                Check.due("ofForm(" + form + ", " + what + ")", x.ofForm(form, what), what == 6 ? -1 : 0);
            }
            Check.due("words(" + form + ")", x.words(form, -1, -1), "!");
        }
        Blankform one = new Blankform();
        List<String> before = Whole.of(Desks.NEW);
        one.say(0, 1, 2, 3, 4, 5);
        one.text(0, -1, -1);
        one.form(0);
        one.keep(0);
        one.knock();
        Check.due("another object's calls don't matter", Whole.of(Desks.NEW), before);
    }

    private interface Code {
        int at(Blankform x, int code);
    }

    private static void promise2() {
        Sentence.of("## Promise 2: ");
        Sentence.is("Types codes, one after the other.");
        Blankform x = new Blankform();
        x.say(0, 1, 2, 3, 4, 5);
        Check.due("in their order", x.typed(), "abcdef");
        x.say(33, 32, 33, 31, -1, 30);
        Check.due("each on what is there then", x.typed(), "abcde87");
        x.say(5, 34, 4, 33, 33, 3);
        Check.due("all off in between", x.typed(), "d");
        Code[] places = {(y, k) -> y.say(k, -1, -1, -1, -1, -1), (y, k) -> y.say(-1, k, -1, -1, -1, -1),
            (y, k) -> y.say(-1, -1, k, -1, -1, -1), (y, k) -> y.say(-1, -1, -1, k, -1, -1),
            (y, k) -> y.say(-1, -1, -1, -1, k, -1), (y, k) -> y.say(-1, -1, -1, -1, -1, k)};
        String[] arguments = {"- `a`: a code, or NONE for nothing", "- `b`: likewise", "- `c`: likewise", "- `d`: likewise",
            "- `e`: likewise", "- `f`: likewise"};
        for (int k = 0; k < 6; k++) {
            Code place = places[k];
            Sentence.is(arguments[k]);
            for (int code = -1; code <= 34; code++) {
                int due = code == 33 ? 9 : code == 34 ? 0 : code == -1 ? 10 : 11;
                Check.due("code " + code, place.at(Check.type(new Blankform(), "a".repeat(10)), code), due);
            }
            Whole.stays("NONE", Desks.BUSY, y -> place.at(y, -1));
        }
        Sentence.is("Returns the length of TYPED then.");
        x = new Blankform();
        Check.due("nothing", x.say(-1, -1, -1, -1, -1, -1), 0);
        Check.due("six", x.say(0, 0, 0, 0, 0, 0), 6);
        Check.due("six and more off", x.say(33, 33, -1, 33, 0, -1), 4);
        Check.due("all off", x.say(0, 0, 0, 0, 0, 34), 0);
        Sentence.is("Throws `IllegalArgumentException` if one is not -1 to 34");
        for (Code place : places) {
            refuses(Desks.BUSY, ARGUMENT, -1, 34, (y, number) -> place.at(y, number));
            refuses(Desks.FULL_OF_SIGNS, ARGUMENT, -1, 34, (y, number) -> place.at(y, number));
        }
        Whole.refuses("the last one of six", Desks.NEW, ARGUMENT, y -> y.say(0, 1, 2, 3, 4, 35));
        tooManySigns(places);
    }

    private static void tooManySigns(Code[] places) {
        Sentence.is("Throws `IllegalStateException` if TYPED would have more than 60 SIGNS at some moment");
        for (Code place : places) {
            for (int code = 0; code <= 32; code += 8) {
                int each = code;
                Whole.refuses("the 61st, " + code, Desks.FULL_OF_SIGNS, STATE, y -> place.at(y, each));
            }
        }
        Supplier<Blankform> full = Desks.FULL_OF_SIGNS;
        Whole.refuses("61, and one off again", full, STATE, y -> y.say(0, 33, -1, -1, -1, -1));
        Whole.refuses("61, and all off", full, STATE, y -> y.say(0, 34, -1, -1, -1, -1));
        Whole.refuses("60 at first", full, STATE, y -> y.say(33, 0, 0, 33, 33, 33));
        Whole.refuses("the last one of six", full, STATE, y -> y.say(33, 33, 0, 0, -1, 0));
        Supplier<Blankform> nearly = () -> Check.type(new Blankform(), "b".repeat(55));
        Whole.refuses("six more than 55", nearly, STATE, y -> y.say(0, 0, 0, 0, 0, 0));
        Check.due("five more than 55", nearly.get().say(0, 0, 0, 0, 0, -1), 60);
        Check.due("one off, one on", full.get().say(33, 0, 33, 0, 33, 0), 60);
        Check.due("all off at first", full.get().say(34, 0, 0, 0, 0, 0), 5);
        Check.due("nothing more", full.get().say(-1, -1, -1, -1, -1, -1), 60);
        Whole.refuses("a wrong code is named first", full, ARGUMENT, y -> y.say(0, 0, 0, 0, 0, 35));
    }

    private static void promise3() {
        Sentence.of("## Promise 3: ");
        Sentence.is("TELLS TYPED as a TEXT at a PATH.");
        Blankform x = Check.type(new Blankform(), "a {<~");
        x.text(0, 1, 2);
        Check.due("its words", x.words(0, 1, 2), "a {<~");
        Check.due("its kind", x.ofData(0, 1, 2, 0), 1);
        Check.type(x, "b");
        Check.due("what is typed then doesn't matter", x.words(0, 1, 2), "a {<~");
        Check.due("it stays typed", x.typed(), "b");
        path((y, a, b, c) -> y.text(a, b, c));
        Sentence.is("Returns its length; NONE, if it CANNOT BE.");
        Check.due("of the empty one", new Blankform().text(5, -1, -1), 0);
        Check.due("of one", Check.type(new Blankform(), "~").text(0, 5, 5), 1);
        Check.due("of 60", Check.type(new Blankform(), "a".repeat(60)).text(0, 5, -1), 60);
        Check.due("in place of another", Desks.busy().text(4, 1, 2), 8);
        Whole.stays("text(0, 1, -1)", Desks.BUSY, y -> Check.due("can't be", y.text(0, 1, -1), -1));
        Whole.stays("text(4, 0, 1)", Desks.BUSY, y -> Check.due("can't be", y.text(4, 0, 1), -1));
        Sentence.is("Throws `IllegalArgumentException` if a is not 0 to 5, b or c not NONE to 5, or c is not NONE, but b is");
        refusesPaths((y, a, b, c) -> y.text(a, b, c));
    }

    private static void promise4() {
        Sentence.of("## Promise 4: ");
        Sentence.is("TELLS a NUMBER at a PATH.");
        Blankform x = new Blankform();
        x.number(0, 1, 2, -305);
        Check.due("its words", x.words(0, 1, 2), "-305");
        Check.due("its kind", x.ofData(0, 1, 2, 0), 2);
        Check.due("itself", x.ofData(0, 1, 2, 3), -305);
        path((y, a, b, c) -> y.number(a, b, c, 5));
        Sentence.is("- `number`: the NUMBER");
        for (int number : new int[] {-9999, -9998, -1000, -999, -100, -99, -10, -9, -1, 0, 1, 9, 10, 99, 100, 999, 1000, 9998, 9999}) {
            x.number(3, -1, -1, number);
            Check.due("number " + number, x.ofData(3, -1, -1, 3), number);
        }
        Sentence.is("Returns how many signs its WORDS have; NONE, if it CANNOT BE.");
        int[][] lengths = {{0, 1}, {9, 1}, {-1, 2}, {-9, 2}, {10, 2}, {99, 2}, {-10, 3}, {-99, 3}, {100, 3}, {999, 3}, {-100, 4},
            {1000, 4}, {9999, 4}, {-1000, 5}, {-9999, 5}};
        for (int[] pair : lengths) {
            Check.due("of " + pair[0], x.number(4, -1, -1, pair[0]), pair[1]);
        }
        Whole.stays("number(0, 1, -1)", Desks.BUSY, y -> Check.due("can't be", y.number(0, 1, -1, 0), -1));
        Whole.stays("number(4, 0, 1)", Desks.BUSY, y -> Check.due("can't be", y.number(4, 0, 1, 9999), -1));
        Sentence.is("Throws `IllegalArgumentException` if a is not 0 to 5, b or c not NONE to 5, or c is not NONE, but b is, or number"
                + " is not -9999 to 9999");
        refusesPaths((y, a, b, c) -> y.number(a, b, c, 5));
        refuses(Desks.BUSY, ARGUMENT, -9999, 9999, (y, number) -> y.number(5, -1, -1, number));
        refuses(Desks.BUSY, ARGUMENT, -9999, 9999, (y, number) -> y.number(5, 4, 3, number));
        refuses(Desks.BUSY, ARGUMENT, -9999, 9999, (y, number) -> y.number(0, 1, -1, number));
    }

    private static void promise5() {
        Sentence.of("## Promise 5: ");
        Sentence.is("TELLS a TRUTH at a PATH.");
        Blankform x = new Blankform();
        x.truth(0, 1, 2, true);
        Check.due("its words", x.words(0, 1, 2), "yes");
        Check.due("its kind", x.ofData(0, 1, 2, 0), 3);
        path((y, a, b, c) -> y.truth(a, b, c, true));
        Sentence.is("- `is`: the TRUTH");
        x.truth(0, 1, 2, false);
        Check.due("no", x.words(0, 1, 2), "no");
        x.truth(0, 1, 2, true);
        Check.due("yes", x.words(0, 1, 2), "yes");
        Sentence.is("Returns 1, if a VALUE was there, otherwise 0; NONE, if it CANNOT BE.");
        Check.due("nothing", new Blankform().truth(0, -1, -1, false), 0);
        Check.due("no map on the way", new Blankform().truth(0, 1, 2, false), 0);
        for (int name = 0; name <= 5; name++) {
            Check.due("a value of any kind", Desks.withKinds().truth(name, -1, -1, false), 1);
            Check.due("in a map", Desks.withKinds().truth(5, name, -1, false), name == 5 ? 0 : 1);
        }
        Check.due("an empty text", EdgesOfCalls.withEmptyText().truth(0, -1, -1, true), 1);
        Check.due("in the last map of a row", Desks.busy().truth(3, 0, -1, true), 1);
        Check.due("nothing there", Desks.busy().truth(3, 1, -1, true), 0);
        Whole.stays("truth(0, 1, -1)", Desks.BUSY, y -> Check.due("can't be", y.truth(0, 1, -1, true), -1));
        Whole.stays("truth(4, 0, 1)", Desks.BUSY, y -> Check.due("can't be", y.truth(4, 0, 1, true), -1));
        Sentence.is("Throws `IllegalArgumentException` if a is not 0 to 5, b or c not NONE to 5, or c is not NONE, but b is");
        refusesPaths((y, a, b, c) -> y.truth(a, b, c, true));
    }

    private static Blankform withEmptyText() {
        Blankform x = new Blankform();
        x.text(0, -1, -1);
        return x;
    }

    private static void promise6() {
        Sentence.of("## Promise 6: ");
        Sentence.is("TELLS an empty ROW at a PATH, or puts a VALUE behind those of the ROW that is there.");
        Blankform x = Check.type(new Blankform(), "ab");
        Check.due("told", x.row(0, 1, 2, 0), 0);
        Check.due("its kind", x.ofData(0, 1, 2, 0), 4);
        x.row(0, 1, 2, 1);
        Check.type(x, "c").row(0, 1, 2, 1);
        Check.due("behind it", x.words(0, 1, 2), "abc");
        Check.due("told again", x.row(0, 1, 2, 0), 0);
        Check.due("it is empty", x.words(0, 1, 2), "");
        path((y, a, b, c) -> y.row(a, b, c, 0));
        Sentence.is("- `what`: 0 the empty ROW, 1 TYPED as a TEXT, 2 an empty MAP, 3 an empty ROW as a VALUE of the ROW");
        for (int what = 0; what <= 3; what++) {
            Blankform y = Check.type(new Blankform(), "ab");
            y.row(0, -1, -1, 0);
            Check.due("what " + what, y.row(0, -1, -1, what), what == 0 ? 0 : 1);
            Check.due("words", y.words(0, -1, -1), what == 1 ? "ab" : "");
            Check.due("a path through it", y.number(0, 1, -1, 5), what == 2 ? 1 : -1);
            Check.due("what it counts", Check.given(y, "{#a}{.|2}{^}-{/}"), what == 0 ? "-" : what == 1 ? "2" : what == 2 ? "1" : "0");
        }
        Sentence.is("Returns how many VALUES the ROW has then; NONE, if it CANNOT BE, or for 1 to 3 there is no ROW, or one that has 8"
                + " already (nothing changes).");
        for (int count = 1; count <= 8; count++) {
            Check.due("of " + count, x.row(0, 1, 2, 1), count);
        }
        Check.due("0 of a full one", Desks.FULL_ROW.get().row(3, -1, -1, 0), 0);
        for (int what = 0; what <= 3; what++) {
            int each = what;
            Whole.stays("row(0, 1, -1)", Desks.BUSY, y -> Check.due("can't be", y.row(0, 1, -1, each), -1));
            Whole.stays("row(4, 0, 1)", Desks.BUSY, y -> Check.due("can't be", y.row(4, 0, 1, each), -1));
            if (what == 0) {
                continue;
            }
            Whole.stays("row(5, -1, -1)", Desks.BUSY, y -> Check.due("nothing there", y.row(5, -1, -1, each), -1));
            Whole.stays("row(5, 1, 2)", Desks.BUSY, y -> Check.due("nothing there, deep", y.row(5, 1, 2, each), -1));
            for (int name : new int[] {0, 1, 2, 4}) {
                Whole.stays("row(" + name + ")", Desks.BUSY, y -> Check.due("no row", y.row(name, -1, -1, each), -1));
            }
            Whole.stays("row(3, -1, -1)", Desks.FULL_ROW, y -> Check.due("it has 8", y.row(3, -1, -1, each), -1));
        }
        Sentence.is("Throws `IllegalArgumentException` if a is not 0 to 5, b or c not NONE to 5, or c is not NONE, but b is, or what is"
                + " not 0 to 3");
        refusesPaths((y, a, b, c) -> y.row(a, b, c, 0));
        refusesPaths((y, a, b, c) -> y.row(a, b, c, 1));
        refuses(Desks.BUSY, ARGUMENT, 0, 3, (y, what) -> y.row(3, -1, -1, what));
        refuses(Desks.BUSY, ARGUMENT, 0, 3, (y, what) -> y.row(5, 1, 2, what));
        refuses(Desks.FULL_ROW, ARGUMENT, 0, 3, (y, what) -> y.row(3, -1, -1, what));
    }

    private static void promise7() {
        Sentence.of("## Promise 7: ");
        Sentence.is("Takes the VALUE at a PATH away.");
        Blankform x = Desks.busy();
        x.take(4, 1, 2);
        Check.due("it is gone", x.words(4, 1, 2), "!");
        Check.due("the map around it stays, empty", x.ofData(4, 1, -1, 0), 5);
        Check.due("what stands beside it stays", x.words(4, 0, -1), "f");
        x.take(3, 0, -1);
        Check.due("the row stays", x.ofData(3, -1, -1, 1), 3);
        x.take(4, -1, -1);
        Check.due("with all in it", x.words(4, 0, -1), "!");
        Check.due("names of data", x.house(7), 15);
        for (int name = 0; name <= 5; name++) {
            x.take(name, -1, -1);
        }
        Check.due("the last one", x.house(2), 0);
        path((y, a, b, c) -> y.take(a, b, c));
        Sentence.is("Returns whether there was one.");
        for (int name = 0; name <= 5; name++) {
            Blankform y = Desks.withKinds();
            Check.due("of any kind", y.take(name, -1, -1), true);
            Check.due("not twice", y.take(name, -1, -1), false);
            Check.due("in a map", Desks.withKinds().take(5, name, -1), name < 5);
        }
        Check.due("an empty text", withEmptyText().take(0, -1, -1), true);
        Check.due("of no data", new Blankform().take(0, -1, -1), false);
        Whole.stays("take(5)", Desks.BUSY, y -> Check.due("nothing there", y.take(5, -1, -1), false));
        Whole.stays("take(5, 1, 2)", Desks.BUSY, y -> Check.due("nothing on the way", y.take(5, 1, 2), false));
        Whole.stays("take(0, 1)", Desks.BUSY, y -> Check.due("no map on the way", y.take(0, 1, -1), false));
        Sentence.is("Throws `IllegalArgumentException` if a is not 0 to 5, b or c not NONE to 5, or c is not NONE, but b is");
        refusesPaths((y, a, b, c) -> y.take(a, b, c));
    }

    private static void promise8() {
        Sentence.of("## Promise 8: ");
        Sentence.is("DATA is empty then.");
        Blankform x = Desks.busy();
        x.wipe();
        Check.due("names", x.house(7), 0);
        for (int[] path : Whole.paths()) {
            Check.due("a kind", x.ofData(path[0], path[1], path[2], 0), 0);
        }
        Check.due("forms stay", x.house(0), 3);
        Check.due("letters stay", x.house(1), 3);
        Check.due("told anew", x.number(4, 1, 2, 7), 1);
        Check.due("alone", x.ofData(4, -1, -1, 4), 2);
        Sentence.is("Returns how many NAMES it had.");
        Check.due("none", new Blankform().wipe(), 0);
        Whole.stays("of no data", Desks.NEW, y -> y.wipe());
        x = new Blankform();
        for (int many = 1; many <= 6; many++) {
            for (int name = 0; name < many; name++) {
                x.number(name, 0, -1, 1);
                x.number(name, 1, -1, 1);
            }
            Check.due(many + " names", x.wipe(), many);
            Check.due("again", x.wipe(), 0);
        }
    }

    private static void promise9() {
        Sentence.of("## Promise 9: ");
        Sentence.is("A FORM is TYPED from now on, if that has no FAULT (its PARENT stays).");
        Blankform x = Desks.busy();
        Check.form(x, 1, "b{$a}2{/}");
        Check.due("its parent", x.ofForm(1, 6), 0);
        Check.due("in its parent", x.fill(1), "a-72");
        x.lone(1);
        Check.due("itself", x.fill(1), "b2");
        Check.type(x, "c");
        Check.due("what is typed then doesn't matter", x.fill(1), "b2");
        for (int form = 0; form <= 5; form++) {
            Check.form(x, form, "");
            Check.due("the empty text", x.fill(form), "");
        }
        formIs("- `form`: the FORM", Desks.NEW, (y, form) -> Check.due("put", Check.form(y, form, "a") + y.ofForm(form, 0), 2));
        Sentence.is("Returns how many TEXTS and TAGS it has (a TEXT that was EATEN whole counts, too); NONE, if it has a FAULT (the FORM"
                + " stays as it was).");
        Check.due("none", Check.form(x, 0, ""), 0);
        Check.due("one", Check.form(x, 0, "a".repeat(60)), 1);
        Check.due("all kinds", Check.form(x, 0, "a{!}{#a}{^}{/}{>a}{$a}{/}{*}{=a}{a}"), 11);
        Check.due("30", Check.form(x, 0, "~{a}".repeat(15)), 30);
        Check.due("eaten whole", Check.form(x, 0, "{!-} ~ {!}{!} {-!}"), 6);
        for (String fault : new String[] {"{", "}", "{#a}", "a{b}{", "{$a}{/}{$a}{/}"}) {
            Supplier<Blankform> typed = () -> Check.type(Desks.busy(), fault);
            for (int form : new int[] {0, 1, 5}) {
                Whole.stays("form(" + form + ") of " + fault, typed, y -> Check.due("a fault", y.form(form), -1));
            }
        }
        refusesForms("Throws `IndexOutOfBoundsException` if form is not 0 to 5", (y, form) -> y.form(form));
        refuses(() -> Check.type(Desks.busy(), "}"), INDEX, 0, 5, (y, form) -> y.form(form));
    }

    private static void promise10() {
        Sentence.of("## Promise 10: ");
        Sentence.is("A FORM gets a PARENT.");
        Supplier<Blankform> six = EdgesOfCalls::allForms;
        Blankform x = six.get();
        x.heir(3, 0);
        Check.due("its parent", x.ofForm(3, 6), 0);
        Check.due("its chain", x.ofForm(3, 10), 2);
        x.heir(3, 1);
        Check.due("another one", x.ofForm(3, 6), 1);
        Check.due("its chain now", x.ofForm(3, 10), 3);
        x.heir(3, 1);
        Check.due("the same again", x.ofForm(3, 6), 1);
        formIs("- `form`: the FORM", six, (y, form) -> {
            if (form > 1) {
                y.heir(form, 0);
            } else {
                y.heir(form, 5);
            }
        });
        formIs("- `parent`: the PARENT", six, (y, parent) -> y.heir(parent == 5 ? 4 : 5, parent));
        Sentence.is("Returns its PARENT before (NONE).");
        x = six.get();
        Check.due("none", x.heir(5, 3), -1);
        Check.due("the one before", x.heir(5, 0), 3);
        Check.due("form 0", x.heir(5, 0), 0);
        Check.due("the same", x.heir(5, 0), 0);
        Check.due("not that of the parent", x.heir(4, 5), -1);
        refusesForms("Throws `IndexOutOfBoundsException` if form or parent is not 0 to 5", (y, form) -> y.heir(form, 0));
        refuses(Desks.BUSY, INDEX, 0, 5, (y, parent) -> y.heir(0, parent));
        refuses(Desks.BUSY, INDEX, 0, 5, (y, parent) -> y.heir(4, parent));
        refuses(Desks.BUSY, INDEX, 0, 5, (y, form) -> y.heir(form, 4));
        refuses(Desks.BUSY, INDEX, 0, 5, (y, form) -> y.heir(form, form));
        Sentence.is("Throws `IllegalStateException` if one of both is not there, or the FORM is in the CHAIN of the PARENT");
        heirsThatCannotBe(six);
    }

    private static void heirsThatCannotBe(Supplier<Blankform> six) {
        Whole.refuses("no form is there", Desks.NEW, STATE, y -> y.heir(0, 1));
        Whole.refuses("both are not there", Desks.BUSY, STATE, y -> y.heir(4, 5));
        Whole.refuses("the form is not there", Desks.BUSY, STATE, y -> y.heir(4, 0));
        Whole.refuses("the parent is not there", Desks.BUSY, STATE, y -> y.heir(0, 4));
        Whole.refuses("the same, not there", Desks.BUSY, STATE, y -> y.heir(4, 4));
        for (int form = 0; form <= 5; form++) {
            int each = form;
            Whole.refuses("of itself, " + form, six, STATE, y -> y.heir(each, each));
        }
        Whole.refuses("of its heir", six, STATE, y -> y.heir(0, 1));
        Supplier<Blankform> chain = () -> {
            Blankform y = six.get();
            for (int form = 1; form <= 5; form++) {
                y.heir(form, form - 1);
            }
            return y;
        };
        for (int form = 0; form <= 5; form++) {
            for (int parent = form; parent <= 5; parent++) {
                int one = form;
                int other = parent;
                Whole.refuses("in a chain of six, " + form + " of " + parent, chain, STATE, y -> y.heir(one, other));
            }
            for (int parent = 0; parent < form; parent++) {
                Check.due("the other way round", chain.get().heir(form, parent), form - 1);
            }
        }
        Blankform y = chain.get();
        y.lone(3);
        Check.due("behind a cut", y.heir(0, 5), -1);
        Check.due("the chain then", y.ofForm(2, 10), 6);
    }

    private static void promise11() {
        Sentence.of("## Promise 11: ");
        Sentence.is("A FORM has no PARENT any more.");
        Blankform x = Desks.busy();
        x.lone(1);
        Check.due("none", x.ofForm(1, 6), -1);
        Check.due("its chain", x.ofForm(1, 10), 1);
        Check.due("alone", x.fill(1), "1");
        Check.due("may be its heir's heir now", x.heir(0, 1), -1);
        Supplier<Blankform> six = EdgesOfCalls::allForms;
        formIs("- `form`: the FORM", six, (y, form) -> y.lone(form));
        Sentence.is("Returns its PARENT before (NONE).");
        Check.due("none", Desks.busy().lone(0), -1);
        Check.due("form 0", Desks.busy().lone(1), 0);
        x = six.get();
        x.heir(4, 5);
        Check.due("form 5", x.lone(4), 5);
        Check.due("none any more", x.lone(4), -1);
        Whole.stays("lone() of one without", Desks.BUSY, y -> y.lone(2));
        refusesForms("Throws `IndexOutOfBoundsException` if form is not 0 to 5", (y, form) -> y.lone(form));
        refusesFormsNotThere("Throws `IllegalStateException` if it is not there", (y, form) -> y.lone(form));
    }

    private static void promise12() {
        Sentence.of("## Promise 12: ");
        Sentence.is("Tells whether it is STRICT (at first not).");
        Blankform x = new Blankform();
        Check.due("at first", x.house(4), 0);
        Check.due("at first, filled", Check.given(x, "{a}a"), "a");
        Sentence.is("- `is`: whether from now on");
        x.strict(true);
        Check.due("from now on", x.house(4), 1);
        Check.due("filled", x.fill(5), "!");
        x.strict(false);
        Check.due("not any more", x.house(4), 0);
        Check.due("filled then", x.fill(5), "a");
        Sentence.is("Returns whether it was before.");
        Check.due("of a new one", new Blankform().strict(true), false);
        Check.due("no, no", x.strict(false), false);
        Check.due("no, yes", x.strict(true), false);
        Check.due("yes, yes", x.strict(true), true);
        Check.due("yes, no", x.strict(false), true);
        Check.due("no again", x.strict(false), false);
        Whole.stays("the same again", Desks.BUSY, y -> y.strict(true));
    }

    private static void promise13() {
        Sentence.of("## Promise 13: ");
        Sentence.is("Fills a FORM and keeps the LETTER.");
        Blankform x = new Blankform();
        Check.text(x, 0, "<");
        Check.form(x, 0, "{a}{=a}");
        x.keep(0);
        Check.text(x, 0, "b");
        Check.form(x, 0, "c{a}");
        Check.due("as it was then", x.letter(0), "<0<");
        x.keep(0);
        Check.due("as it was then, too", x.letter(1), "cb");
        Check.due("the first one stays", x.letter(0), "<0<");
        formIs("- `form`: the FORM", () -> {
            Blankform y = allForms();
            y.strict(false);
            return y;
        }, (y, form) -> y.keep(form));
        Sentence.is("Returns its number; NONE, if it fails.");
        x = new Blankform();
        Check.form(x, 0, "a");
        Check.form(x, 1, "{a}{>e}");
        Check.form(x, 2, "{>c}");
        for (int number = 0; number < 8; number++) {
            x.strict(true);
            Check.due("failure 1", x.keep(1), -1);
            Check.due("failure 2", x.keep(2), -1);
            x.strict(false);
            Check.due("number " + number, x.keep(number % 2), number);
        }
        Whole.stays("a failure", () -> {
            Blankform y = Desks.busy();
            Check.form(y, 2, "{f}");
            return y;
        }, y -> Check.due("it fails", y.keep(2), -1));
        Check.due("burnt", x.burn(), 8);
        Check.due("from 0 again", x.keep(0), 0);
        refusesForms("Throws `IndexOutOfBoundsException` if form is not 0 to 5", (y, form) -> y.keep(form));
        refuses(Desks.FULL_OF_LETTERS, INDEX, 0, 5, (y, form) -> y.keep(form));
        refusesFormsNotThere("Throws `IllegalStateException` if the FORM is not there, or there are 8 LETTERS", (y, form) -> y.keep(form));
        for (int form = 0; form <= 5; form++) {
            int each = form;
            Whole.refuses("the 9th", Desks.FULL_OF_LETTERS, STATE, y -> y.keep(each));
        }
        Supplier<Blankform> failing = () -> {
            Blankform y = Desks.FULL_OF_LETTERS.get();
            Check.form(y, 0, "{>a}");
            return y;
        };
        Whole.refuses("the 9th, if it fails", failing, STATE, y -> y.keep(0));
    }

    private static void promise14() {
        Sentence.of("## Promise 14: ");
        Sentence.is("All LETTERS are thrown away.");
        Blankform x = Desks.FULL_OF_LETTERS.get();
        x.burn();
        Check.due("how many there are", x.house(1), 0);
        for (int letter = 0; letter < 8; letter++) {
            int each = letter;
            Check.due("letter " + letter, Whole.thrown(x, y -> y.letter(each)), INDEX);
        }
        Check.due("forms stay", x.house(0), 3);
        Sentence.is("Returns how many these were.");
        Check.due("none", new Blankform().burn(), 0);
        Whole.stays("of none", Desks.NEW, y -> y.burn());
        Check.due("all eight", Desks.FULL_OF_LETTERS.get().burn(), 8);
        x = Desks.busy();
        Check.due("three", x.burn(), 3);
        Check.due("none any more", x.burn(), 0);
        x.keep(0);
        Check.due("one", x.burn(), 1);
    }

    private static void promise15() {
        Sentence.of("## Promise 15: ");
        Sentence.is("Asks for the first one of no names: it is counted.");
        Blankform x = new Blankform();
        for (int count = 1; count <= 255; count++) {
            x.blank();
            Check.due("counted", x.house(5), count);
        }
        changesOnly("house(5)", y -> y.blank());
        Sentence.is("Returns -9.");
        Check.due("of a new one", new Blankform().blank(), -9);
        Check.due("the 256th", x.blank(), -9);
        Check.due("knocks are not counted so", x.house(6), 0);
    }

    private static void promise16() {
        Sentence.of("## Promise 16: ");
        Sentence.is("Knocks at the writer's door: it stays shut.");
        changesOnly("house(6)", y -> y.knock());
        Sentence.is("Returns how often ever, with this.");
        Check.due("the first", new Blankform().knock(), 1);
        Blankform x = new Blankform();
        for (int count = 1; count <= 500; count++) {
            Check.due("knock " + count, x.knock(), count);
        }
        x.wipe();
        x.burn();
        Check.due("ever", x.knock(), 501);
        Check.due("in the house", x.house(6), 501);
    }

    /** The call changes one answer of house(), and so the checksum, but nothing else. */
    private static void changesOnly(String house, Consumer<Blankform> run) {
        List<String> before = Whole.of(Desks.BUSY);
        List<String> after = Whole.of(() -> {
            Blankform x = Desks.busy();
            run.accept(x);
            return x;
        });
        for (int k = 0; k < before.size(); k++) {
            boolean changes = before.get(k).startsWith(house) || before.get(k).startsWith("digest()");
            Check.due("whether " + before.get(k) + " stays", before.get(k).equals(after.get(k)), !changes);
        }
    }
}
