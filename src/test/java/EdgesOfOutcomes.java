import java.util.List;
import java.util.function.Supplier;

/** Promises 30 to 37 of the document: letters, and what would be. */
final class EdgesOfOutcomes {

    private static final Class<IllegalArgumentException> ARGUMENT = IllegalArgumentException.class;
    private static final Class<IndexOutOfBoundsException> INDEX = IndexOutOfBoundsException.class;
    private static final Class<IllegalStateException> STATE = IllegalStateException.class;
    private static final Supplier<Blankform> ALL_FORMS = EdgesOfCalls::allForms;

    private EdgesOfOutcomes() {
    }

    static void test() {
        promise30();
        promise31();
        promise32();
        promise33();
        promise34();
        promise35();
        promise36();
        promise37();
    }

    /** Of no LETTERS, of three, and of all eight: the next number is refused. */
    private static void refusesLetters(EdgesOfCalls.NumberCall call) {
        EdgesOfCalls.refuses(Desks.NEW, INDEX, 0, -1, call);
        EdgesOfCalls.refuses(Desks.BUSY, INDEX, 0, 2, call);
        EdgesOfCalls.refuses(Desks.FULL_OF_LETTERS, INDEX, 0, 7, call);
        Blankform x = Desks.busy();
        x.burn();
        for (int letter = 0; letter < 3; letter++) {
            int each = letter;
            Check.due("burnt, " + letter, Whole.thrown(x, y -> call.of(y, each)), INDEX);
        }
    }

    private static void promise30() {
        Sentence.of("## Promise 30: ");
        Sentence.is("- `letter`: a LETTER");
        EdgesOfCalls.takes(Desks.FULL_OF_LETTERS, 0, 7, (y, letter) -> y.letter(letter));
        Sentence.is("Returns it.");
        Blankform x = new Blankform();
        String[] forms = {"", "a", "~ <", "b".repeat(60)};
        for (int letter = 0; letter < 8; letter++) {
            Check.form(x, 0, forms[letter % 4]);
            x.keep(0);
        }
        for (int letter = 0; letter < 8; letter++) {
            Check.due("letter " + letter, x.letter(letter), forms[letter % 4]);
        }
        Whole.stays("letter(0)", Desks.BUSY, y -> y.letter(0));
        Sentence.is("Throws `IndexOutOfBoundsException` if there is no such LETTER");
        refusesLetters((y, letter) -> y.letter(letter));
    }

    private static void promise31() {
        Sentence.of("## Promise 31: ");
        Sentence.is("- `one`: the first LETTER");
        EdgesOfCalls.takes(Desks.FULL_OF_LETTERS, 0, 7, (y, letter) -> y.back(letter, 0));
        Sentence.is("- `other`: the second one (or the same)");
        EdgesOfCalls.takes(Desks.FULL_OF_LETTERS, 0, 7, (y, letter) -> y.back(0, letter));
        EdgesOfCalls.takes(Desks.FULL_OF_LETTERS, 0, 7, (y, letter) -> y.back(letter, letter));
        Sentence.is("Returns BACK of both.");
        Blankform x = new Blankform();
        for (String form : new String[] {"", "ab", "ba", "c", "ab"}) {
            Check.form(x, 0, form);
            x.keep(0);
        }
        String[][] due = {{"", "{}", "{}", "{}", "{}"}, {"{}", "ab", "{}b{}", "{}", "ab"}, {"{}", "{}a{}", "ba", "{}", "{}a{}"},
            {"{}", "{}", "{}", "c", "{}"}, {"{}", "ab", "{}b{}", "{}", "ab"}};
        for (int one = 0; one < 5; one++) {
            for (int other = 0; other < 5; other++) {
                Check.due("back(" + one + ", " + other + ")", x.back(one, other), due[one][other]);
            }
        }
        Whole.stays("back(0, 2)", Desks.BUSY, y -> y.back(0, 2));
        Sentence.is("Throws `IndexOutOfBoundsException` if there is no such LETTER, of one and other");
        refusesLetters((y, letter) -> y.back(letter, 0));
        refusesLetters((y, letter) -> y.back(0, letter));
        refusesLetters((y, letter) -> y.back(letter, letter));
    }

    private static void promise32() {
        Sentence.of("## Promise 32: ");
        Sentence.is("- `one`: the first LETTER");
        EdgesOfCalls.takes(Desks.FULL_OF_LETTERS, 0, 7, (y, letter) -> y.common(letter, 0, 0));
        Sentence.is("- `other`: the second one (or the same)");
        EdgesOfCalls.takes(Desks.FULL_OF_LETTERS, 0, 7, (y, letter) -> y.common(0, letter, 0));
        Sentence.is("- `what`: 0 how many signs COMMON has, 1 how many GAPS there are, 2 how many signs of both are gone past");
        Blankform x = new Blankform();
        for (String form : new String[] {"", "abc", "0abc1", "cab", "a2b3c"}) {
            Check.form(x, 0, form);
            x.keep(0);
        }
        int[][] due = {{0, 0, 0, 0, 0}, {0, 1, 0, 1, 3}, {1, 1, 3, 0, 0}, {1, 2, 3, 2, 2}, {1, 3, 2, 2, 2}, {1, 4, 3, 2, 2},
            {2, 4, 3, 4, 4}, {4, 0, 0, 1, 5}, {3, 1, 2, 2, 2}};
        for (int[] row : due) {
            for (int what = 0; what <= 2; what++) {
                Check.due("common(" + row[0] + ", " + row[1] + ", " + what + ")", x.common(row[0], row[1], what), row[2 + what]);
            }
        }
        Sentence.is("Returns that.");
        for (int what = 0; what <= 2; what++) {
            int each = what;
            Whole.stays("common(0, 2, " + what + ")", Desks.BUSY, y -> y.common(0, 2, each));
            Check.due("asked twice", x.common(1, 3, what), x.common(1, 3, what));
        }
        Sentence.is("Throws `IndexOutOfBoundsException` if there is no such LETTER, of one and other");
        refusesLetters((y, letter) -> y.common(letter, 0, 0));
        refusesLetters((y, letter) -> y.common(0, letter, 0));
        refusesLetters((y, letter) -> y.common(0, letter, 3));
        refusesLetters((y, letter) -> y.common(letter, 0, -1));
        Sentence.is("Throws `IllegalArgumentException` if what is not 0 to 2");
        EdgesOfCalls.refuses(Desks.BUSY, ARGUMENT, 0, 2, (y, what) -> y.common(0, 1, what));
        EdgesOfCalls.refuses(Desks.BUSY, ARGUMENT, 0, 2, (y, what) -> y.common(2, 2, what));
    }

    private static void promise33() {
        Sentence.of("## Promise 33: ");
        EdgesOfCalls.formIs("- `form`: a FORM", ALL_FORMS, (y, form) -> y.only(form, 0));
        Sentence.is("- `names`: a set of NAMES");
        EdgesOfCalls.takes(Desks.BUSY, 0, 63, (y, names) -> y.only(0, names));
        Blankform x = new Blankform();
        for (int name = 0; name <= 5; name++) {
            Check.text(x, name, "f".repeat(1 << name > 8 ? name + 10 : 1 << name));
        }
        Check.form(x, 0, "{a}{b}{c}{d}{e}{f}");
        int[] lengths = {1, 2, 4, 8, 14, 15};
        for (int names = 0; names <= 63; names++) {
            int due = 0;
            for (int name = 0; name <= 5; name++) {
                due += (names >> name & 1) * lengths[name];
            }
            Check.due("only(0, " + names + ")", x.only(0, names), due);
        }
        Sentence.is("Returns the length of what it would give, if DATA had no other NAMES; NONE, if it failed then.");
        x = Desks.busy();
        Check.due("all of them", x.only(0, 63), 4);
        Check.due("what it asks for", x.only(0, 2), 4);
        Check.due("not in strict", x.only(0, 61), -1);
        x.strict(false);
        Check.due("without it", x.only(0, 61), 2);
        Check.due("nothing is changed", x.fill(0), "a-70");
        Check.form(x, 3, "{#d}{a}{/}{#e}{a}{/}{#a}-{^}::{/}");
        Check.due("names of scopes are not data's", x.only(3, 24), 5);
        Check.due("all names", x.only(3, 63), 12);
        Check.due("none", x.only(3, 0), 2);
        Check.form(x, 3, "{>d}");
        Check.due("it fails anyhow", x.only(3, 63), -1);
        Check.form(x, 3, "");
        Check.due("nothing", x.only(3, 0), 0);
        for (int names = 0; names <= 63; names += 21) {
            int each = names;
            Whole.stays("only(0, " + names + ")", Desks.BUSY, y -> y.only(0, each));
        }
        EdgesOfCalls.refusesForms("Throws `IndexOutOfBoundsException` if form is not 0 to 5", (y, form) -> y.only(form, 0));
        EdgesOfCalls.refuses(Desks.BUSY, INDEX, 0, 5, (y, form) -> y.only(form, 64));
        Sentence.is("Throws `IllegalArgumentException` if names is not 0 to 63");
        EdgesOfCalls.refuses(Desks.BUSY, ARGUMENT, 0, 63, (y, names) -> y.only(0, names));
        EdgesOfCalls.refuses(Desks.BUSY, ARGUMENT, 0, 63, (y, names) -> y.only(4, names));
        EdgesOfCalls.refusesFormsNotThere("Throws `IllegalStateException` if it is not there", (y, form) -> y.only(form, 63));
    }

    private static void promise34() {
        Sentence.of("## Promise 34: ");
        EdgesOfCalls.formIs("- `one`: the first FORM", ALL_FORMS, (y, form) -> y.joined(form, 0));
        EdgesOfCalls.formIs("- `other`: the second one (or the same)", ALL_FORMS, (y, form) -> y.joined(0, form));
        EdgesOfCalls.takes(ALL_FORMS, 0, 5, (y, form) -> y.joined(form, form));
        Sentence.is("Returns what SIGNS of both, as they were typed, one behind the other (more than 60, too), would give as a FORM"
                + " without PARENT; \"!\", if that has a FAULT, or fails.");
        Blankform x = new Blankform();
        Check.form(x, 0, "");
        Check.due("nothing", x.joined(0, 0), "");
        Check.form(x, 1, "a~");
        Check.due("one of them", x.joined(0, 1) + x.joined(1, 0), "a~a~");
        Check.due("the same", x.joined(1, 1), "a~a~");
        Check.form(x, 2, " {-!-}b");
        Check.due("one behind the other", x.joined(2, 1), "ba~");
        Check.due("blanks of both are eaten", x.joined(1, 2), "ab");
        Check.due("as they were typed", x.fill(2), "b");
        Check.form(x, 0, "c".repeat(60));
        Check.due("120 signs", x.joined(0, 0), "c".repeat(120));
        Check.form(x, 0, "{d}".repeat(20));
        x.number(3, -1, -1, 2345);
        Check.due("40 places", x.joined(0, 0), "2345".repeat(40));
        x.number(3, -1, -1, -9999);
        Check.due("200 signs come of it", x.joined(0, 0), "-9999".repeat(40));
        Check.form(x, 1, "{d}{d}{d}c");
        Check.due("70 signs", x.joined(0, 1), "-9999".repeat(23) + "c");
        joinedBlocks(x);
        for (int one = 0; one <= 2; one++) {
            int each = one;
            Whole.stays("joined(" + one + ", 2)", Desks.BUSY, y -> y.joined(each, 2));
        }
        EdgesOfCalls.refusesForms("Throws `IndexOutOfBoundsException` if one or other is not 0 to 5", (y, form) -> y.joined(form, 0));
        EdgesOfCalls.refuses(Desks.BUSY, INDEX, 0, 5, (y, form) -> y.joined(0, form));
        EdgesOfCalls.refuses(Desks.BUSY, INDEX, 0, 5, (y, form) -> y.joined(4, form));
        EdgesOfCalls.refuses(Desks.BUSY, INDEX, 0, 5, (y, form) -> y.joined(form, 4));
        EdgesOfCalls.refusesFormsNotThere("Throws `IllegalStateException` if one of both is not there", (y, form) -> y.joined(form, form));
        for (int form = 3; form <= 5; form++) {
            int each = form;
            Whole.refuses("the first one is not there", Desks.BUSY, STATE, y -> y.joined(each, 0));
            Whole.refuses("the second one is not there", Desks.BUSY, STATE, y -> y.joined(0, each));
        }
    }

    private static void joinedBlocks(Blankform x) {
        x.wipe();
        Check.form(x, 3, "{$a}3{*}{/}");
        Check.due("a block twice", x.joined(3, 3), "!");
        Check.form(x, 4, "{$b}4{*}{/}");
        x.heir(3, 4);
        Check.due("two blocks, without a parent", x.joined(3, 4), "34");
        Check.due("the other way round", x.joined(4, 3), "43");
        Check.form(x, 5, "{$b}5{/}");
        Check.due("a block of each, the same letter", x.joined(4, 5), "!");
        Check.form(x, 0, "{>c}{>f}{f}");
        Check.form(x, 1, "b{>e}");
        Check.due("with their parts", x.joined(0, 1), "b5b4");
        x.strict(true);
        Check.due("in strict", x.joined(0, 1), "!");
        Check.due("in strict, too", x.joined(1, 1), "b4b4");
        x.strict(false);
        Check.form(x, 0, "{>a}");
        Check.due("it fails", x.joined(1, 0), "!");
        Check.text(x, 0, "a".repeat(60));
        Check.form(x, 0, "{a}{a}{a}" + "0".repeat(20));
        Check.form(x, 1, "1");
        Check.due("the first one alone", x.fill(0).length(), 200);
        Check.due("it is too long", x.joined(0, 1), "!");
        Check.due("it is so, too", x.joined(1, 0), "!");
    }

    private static int would(Blankform x, String text, boolean isStrict) {
        return Check.type(x, text).wouldGive(isStrict);
    }

    private static void promise35() {
        Sentence.of("## Promise 35: ");
        Sentence.is("- `isStrict`: whether in STRICT");
        Blankform x = new Blankform();
        for (int k = 0; k < 2; k++) {
            Check.due("strict, by itself", x.strict(k == 1), false);
            Check.due("missing", would(x, "ab{f}", false), 2);
            Check.due("missing, in strict", would(x, "ab{f}", true), -1);
            Check.due("a part that is not there", would(x, "ab{>c}", false), 2);
            Check.due("a part that is not there, in strict", would(x, "ab{>c}", true), -1);
            Check.due("strict stays", x.house(4), k);
        }
        Sentence.is("Returns the length of what TYPED would give as a FORM without PARENT; NONE, if it has a FAULT, or fails.");
        x = new Blankform();
        Check.due("nothing", would(x, "", true), 0);
        Check.due("60 signs", would(x, "a".repeat(60), true), 60);
        for (String fault : new String[] {"{", "}", "{#a}", "a{/}", "{$a}{/}{$a}{/}"}) {
            Check.due("a fault", would(x, fault, false), -1);
        }
        Check.text(x, 0, "<".repeat(50));
        Check.due("200 signs", would(x, "{a}{a}", true), 200);
        Check.due("201 signs", would(x, "{a}{a}a", true), -1);
        Check.due("100 signs", would(x, "{a}", true), 100);
        Check.form(x, 0, "{$a}0{/}");
        Check.due("a part", would(x, "{>a}{>a}", true), 2);
        Check.form(x, 1, "{>b}");
        Check.due("failure 2", would(x, "{>b}", false), -1);
        Check.due("super", would(x, "{$a}ab{*}{/}{*}", true), 2);
        Check.due("no form was put", x.house(0), 2);
        for (boolean isStrict : new boolean[] {false, true}) {
            Whole.stays("wouldGive(" + isStrict + ")", Desks.BUSY, y -> y.wouldGive(isStrict));
        }
    }

    private static void soundIs(Blankform x, String why) {
        for (int k = 0; k < 2; k++) {
            x.strict(k == 1);
            Check.due(why + (k == 1 ? ", in strict" : ""), x.isSound(), true);
        }
    }

    private static void promise36() {
        Sentence.of("## Promise 36: ");
        Sentence.is("Returns whether all is SOUND: unescaping what is ESCAPED gives TYPED, and no \"{\" or \"}\" is in what is;");
        soundIs(new Blankform(), "of a new one");
        for (String text : new String[] {"{}<<0<1<2", "<".repeat(60), "{".repeat(60), "<0".repeat(30), "<"}) {
            soundIs(Check.type(new Blankform(), text), text);
        }
        Sentence.is("each FORM that is there gives the same (or the same FAILURE), if DATA has just the NAMES that it ASKS for;");
        soundIs(Desks.busy(), "of a busy one");
        soundIs(chain("{a}{>b}{#e}{$a}{b.c}{/}{/}", "{#d}{c}{/}{>f}", "{$a}{*}{f}{/}{>c}"), "of heirs and parts");
        Sentence.is("a FORM without TAGS and PARENT gives itself;");
        soundIs(chain("", "a", " ~"), "of texts with parents");
        soundIs(texts("", "a".repeat(60), "<0 ~ "), "of texts");
        Sentence.is("of each FORM that is there and the next one that is, by joined(), comes what both give, if no TAG of them EATS,"
                + " neither has a PARENT, none of the three fails, and they can be read together;");
        soundIs(texts("a{b}", "{$a}b{/}", "{$b}{*}{/}"), "of blocks");
        soundIs(texts("{$a}b{/}", "{$a}c{/}", "{$a}{*}{/}"), "of such that can't be read together");
        soundIs(texts("a ", " {-!}", "{!-} b"), "of such that eat");
        soundIs(texts("{a}{a}{a}", "{a}{a}{a}{a}", "{>a}{>b}{>d}"), "of such that fail together");
        soundIs(texts("{>f}", "{>a}{>b}{>c}", "{>e}{e}"), "of such that fail alone");
        Sentence.is("a FORM without PARENT that is a PART alone gives what the FORM of that letter gives, if that is there, at most 9"
                + " are open in that, and at most 59 PARTS, BLOCKS and SUPERS come up;");
        soundIs(texts("{>b}", "{>c}", "{a}b"), "of parts alone");
        soundIs(texts("{>a}", "{>c}", "{>b}"), "of rings");
        soundIs(texts("{>b}", "{>d}".repeat(15), "{>f}"), "of many parts");
        String four = "{#a}{#a}{#a}{#a}{>c}{/}{/}{/}{/}";
        soundIs(texts("{>b}", four, "{#a}{#a}{#a}{$a}{*}{/}{/}{/}{/}"), "of 9 that are open");
        soundIs(texts("{>b}", four, "{#a}{#a}{#a}{#a}{>d}{/}{/}{/}{/}", ""), "of 10 that are open");
        soundIs(sixty(59), "of 59 parts");
        soundIs(sixty(60), "of 60 parts");
        soundIs(sixty(61), "of 61 parts");
        Sentence.is("the first two LETTERS have the signs of COMMON, in order.");
        Blankform x = Desks.FULL_OF_LETTERS.get();
        soundIs(x, "of eight letters");
        x.burn();
        soundIs(x, "of no letters");
        x.strict(false);
        x.keep(0);
        soundIs(x, "of one letter");
        x.strict(false);
        x.keep(2);
        soundIs(x, "of two letters");
        Whole.stays("isSound()", Desks.BUSY, y -> y.isSound());
    }

    /** FORMS of these texts, with 60 signs in "a" and values of other kinds. */
    private static Blankform texts(String... forms) {
        Blankform x = Desks.busy();
        x.lone(1);
        Check.text(x, 0, "c".repeat(60));
        for (int form = 0; form < forms.length; form++) {
            Check.due("form " + form + " has no fault", Check.form(x, form, forms[form]) >= 0, true);
        }
        return x;
    }

    private static Blankform chain(String... forms) {
        Blankform x = texts(forms);
        for (int form = 1; form < forms.length; form++) {
            x.heir(form, form - 1);
        }
        return x;
    }

    /** The FORM "a" is the PART "b" alone, in which so many PARTS come up. */
    private static Blankform sixty(int parts) {
        Blankform x = texts("{>b}", "{>c}".repeat(5) + "{>d}".repeat(parts - 55), "{>d}".repeat(10));
        Check.form(x, 3, "");
        Check.due("so many", x.filling(1, 4), Math.min(parts, 60));
        return x;
    }

    private static void promise37() {
        Sentence.of("## Promise 37: ");
        Sentence.is("Computes a checksum. A number d starts with 7541; for each of the following numbers v, d becomes d * 31 + v, which"
                + " wraps around as a 64-bit integer: house() of 0 to 7; fault() as itself and its LINE; NAME by NAME ofData() of that"
                + " NAME alone, 0 to 4, and the length of words() (1 for \"!\"); FORM by FORM ofForm() of 0 to 10, and, if it is there,"
                + " filling() of 0 to 7 and asks(); LETTER by LETTER its length; if there are two LETTERS or more, common() of the first"
                + " two, 0 to 2, and the length of back() of these; the length of escape(); wouldGive() not in STRICT, then in STRICT;"
                + " 1 if isSound(), otherwise 0.");
        Check.due("of a new one", new Blankform().digest(), sumOfNew());
        Supplier<Blankform> withText = () -> {
            Blankform x = Desks.busy();
            Check.text(x, 5, "{ab}<");
            return Check.type(x, "{f.a}0{#e.f}{^}~{/}");
        };
        Supplier<Blankform> withFault = () -> Check.type(Desks.busy(), "~a~{b}{");
        Supplier<Blankform> oneLetter = () -> {
            Blankform x = Desks.busy();
            x.burn();
            x.strict(false);
            x.keep(0);
            return x;
        };
        Supplier<Blankform> twoLetters = () -> {
            Blankform x = oneLetter.get();
            x.keep(2);
            return x;
        };
        Supplier<Blankform> without = () -> {
            Blankform x = Desks.busy();
            x.burn();
            return x;
        };
        for (Supplier<Blankform> each : List.of(Desks.NEW, Desks.BUSY, Desks.WITH_KINDS, Desks.FULL_OF_SIGNS,
                Desks.FULL_OF_LETTERS, Desks.FULL_ROW, withText, withFault, oneLetter, twoLetters, without, ALL_FORMS)) {
            Check.due("of this one", each.get().digest(), sum(each));
        }
        Sentence.is("Returns d.");
        Blankform x = Desks.busy();
        Check.due("asked twice", x.digest(), x.digest());
        Check.due("another one in the same state", x.digest(), Desks.busy().digest());
        x.knock();
        Check.due("in another state", x.digest() == Desks.busy().digest(), false);
        Whole.stays("digest()", Desks.BUSY, y -> y.digest());
    }

    private static long next(long d, long v) {
        return d * 31 + v;
    }

    /** All that is asked of a new one is told here by hand. */
    private static long sumOfNew() {
        long d = 7541;
        for (int what = 0; what <= 7; what++) {
            d = next(d, 0);
        }
        d = next(next(d, -1), -1);
        for (int name = 0; name <= 5; name++) {
            for (int what = 0; what <= 4; what++) {
                d = next(d, 0);
            }
            d = next(d, 1);
        }
        for (int form = 0; form <= 5; form++) {
            for (int what = 0; what <= 10; what++) {
                d = next(d, what == 6 ? -1 : 0);
            }
        }
        return next(next(next(next(d, 0), 0), 0), 1);
    }

    private static long sum(Supplier<Blankform> maker) {
        Blankform x = maker.get();
        long d = 7541;
        for (int what = 0; what <= 7; what++) {
            d = next(d, x.house(what));
        }
        d = next(next(d, x.fault(false)), x.fault(true));
        for (int name = 0; name <= 5; name++) {
            for (int what = 0; what <= 4; what++) {
                d = next(d, x.ofData(name, -1, -1, what));
            }
            d = next(d, x.words(name, -1, -1).length());
        }
        for (int form = 0; form <= 5; form++) {
            for (int what = 0; what <= 10; what++) {
                d = next(d, x.ofForm(form, what));
            }
            for (int what = 0; x.ofForm(form, 0) == 1 && what <= 7; what++) {
                d = next(d, x.filling(form, what));
            }
            d = x.ofForm(form, 0) == 1 ? next(d, x.asks(form)) : d;
        }
        x = maker.get();
        for (int letter = 0; letter < x.house(1); letter++) {
            d = next(d, x.letter(letter).length());
        }
        for (int what = 0; x.house(1) >= 2 && what <= 2; what++) {
            d = next(d, x.common(0, 1, what));
        }
        d = x.house(1) >= 2 ? next(d, x.back(0, 1).length()) : d;
        d = next(d, x.escape().length());
        d = next(next(d, x.wouldGive(false)), x.wouldGive(true));
        return next(d, x.isSound() ? 1 : 0);
    }
}
