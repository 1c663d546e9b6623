import java.util.function.Consumer;
import java.util.function.Supplier;

/** What the document says of all calls at once: at the head of its "Description", and ahead of that. */
final class EdgesOfAllCalls {

    private static final Class<IllegalArgumentException> ARGUMENT = IllegalArgumentException.class;
    private static final Class<IllegalStateException> STATE = IllegalStateException.class;
    private static final Class<IndexOutOfBoundsException> INDEX = IndexOutOfBoundsException.class;

    private EdgesOfAllCalls() {
    }

    static void test() {
        Sentence.of("## What it is");
        manyCalls();
        Sentence.of("## Description");
        none();
        sets();
        Sentence.needsNone("X by X is by rising numbers; where one of several is taken and nothing else is said, it is that with the"
                + " smallest number.", "it tells how other sentences are read: those of digest() and of what fails first");
        changesNothing();
        namedFirst();
    }

    private static void manyCalls() {
        Sentence.is("An object is used for at most 512 calls after it has been made;");
        Blankform x = Desks.busy();
        long digest = x.digest();
        Blankform y = new Blankform();
        for (int call = 1; call <= 512; call++) {
            Check.due("call " + call, y.blank(), -9);
        }
        y = Desks.busy();
        for (int call = 0; call < 200; call++) {
            y.text(5, call % 6, call % 5);
            y.row(5, call % 6, call % 5, call % 4);
        }
        y.take(5, -1, -1);
        y.digest();
        Check.type(y, "{a}~ b<0");
        Check.due("after many values", y.digest(), digest);
        Blankform full = Desks.FULL_OF_LETTERS.get();
        for (int call = 0; call < 450; call++) {
            Check.due("refused again and again", Whole.thrown(full, z -> z.keep(0)), STATE);
        }
        Check.due("burnt then", full.burn(), 8);
    }

    private static void none() {
        Sentence.is("All numbers are whole; NONE is -1.");
        Blankform x = Desks.busy();
        Check.due("b and c", x.words(0, -1, -1), "<ab");
        Check.due("a parent", x.ofForm(0, 6), -1);
        Check.due("a letter", x.block(0, 5), -1);
        Check.due("a fault", new Blankform().fault(false), -1);
        Check.due("a code", new Blankform().say(-1, -1, -1, -1, -1, -1), 0);
        Whole.refuses("-2 is no name", Desks.BUSY, ARGUMENT, y -> y.words(0, -2, -1));
        Whole.refuses("-2 is no code", Desks.BUSY, ARGUMENT, y -> y.say(-2, -1, -1, -1, -1, -1));
    }

    private static void sets() {
        Sentence.is("A set is the sum of 2^k for the numbers k in it.");
        Blankform x = new Blankform();
        Check.due("the empty one", x.house(7), 0);
        for (int name = 0; name <= 5; name++) {
            Blankform y = new Blankform();
            y.number(name, name, -1, 1);
            Check.due("names of data", y.house(7), 1 << name);
            Check.due("names of a map", y.ofData(name, -1, -1, 4), 1 << name);
            String letter = String.valueOf("abcdef".charAt(name));
            Check.form(y, 0, "{" + letter + "}{$" + letter + "}{/}");
            Check.due("what it asks for", y.asks(0), 1 << name);
            Check.due("letters of blocks", y.ofForm(0, 8), 1 << name);
            Check.due("that name alone", y.only(0, 1 << name), 0);
            x.number(name, name, -1, 1);
            Check.due("names so far", x.house(7), (2 << name) - 1);
        }
    }

    private static void changesNothing() {
        Sentence.is("A method that throws an exception changes nothing.");
        Supplier<Blankform> desk = Desks.BUSY;
        Supplier<Blankform> full = Desks.FULL_OF_SIGNS;
        Whole.refuses("say", desk, ARGUMENT, x -> x.say(0, 0, 0, 0, 0, 35));
        Whole.refuses("say, off and on", desk, ARGUMENT, x -> x.say(34, 0, 33, 1, 2, -2));
        Whole.refuses("say, too many", full, STATE, x -> x.say(33, 33, 0, 0, 0, 34));
        Whole.refuses("text", desk, ARGUMENT, x -> x.text(5, 0, 6));
        Whole.refuses("number", desk, ARGUMENT, x -> x.number(5, 0, 1, 10000));
        Whole.refuses("truth", desk, ARGUMENT, x -> x.truth(5, 0, 6, true));
        Whole.refuses("row", desk, ARGUMENT, x -> x.row(5, 0, 1, 4));
        Whole.refuses("take", desk, ARGUMENT, x -> x.take(0, -1, 0));
        Whole.refuses("form", desk, INDEX, x -> x.form(6));
        Whole.refuses("heir", desk, INDEX, x -> x.heir(0, 6));
        Whole.refuses("heir, not there", desk, STATE, x -> x.heir(2, 3));
        Whole.refuses("heir, in a ring", desk, STATE, x -> x.heir(0, 1));
        Whole.refuses("lone", desk, INDEX, x -> x.lone(6));
        Whole.refuses("lone, not there", desk, STATE, x -> x.lone(3));
        Whole.refuses("keep", desk, INDEX, x -> x.keep(-1));
        Whole.refuses("keep, not there", desk, STATE, x -> x.keep(3));
        Whole.refuses("keep, full", Desks.FULL_OF_LETTERS, STATE, x -> x.keep(0));
        Whole.refuses("ofData", desk, ARGUMENT, x -> x.ofData(5, 1, 2, 5));
        Whole.refuses("words", desk, ARGUMENT, x -> x.words(5, 1, 6));
        Whole.refuses("filter", desk, ARGUMENT, x -> x.filter(10));
        Whole.refuses("house", desk, ARGUMENT, x -> x.house(8));
        Whole.refuses("ofForm", desk, INDEX, x -> x.ofForm(6, 0));
        Whole.refuses("ofForm, what", desk, ARGUMENT, x -> x.ofForm(0, 11));
        Whole.refuses("fill", desk, INDEX, x -> x.fill(6));
        Whole.refuses("fill, not there", desk, STATE, x -> x.fill(3));
        Whole.refuses("filling", desk, INDEX, x -> x.filling(6, 0));
        Whole.refuses("filling, what", desk, ARGUMENT, x -> x.filling(0, 8));
        Whole.refuses("filling, not there", desk, STATE, x -> x.filling(3, 0));
        Whole.refuses("asks", desk, INDEX, x -> x.asks(6));
        Whole.refuses("asks, not there", desk, STATE, x -> x.asks(3));
        Whole.refuses("block", desk, INDEX, x -> x.block(6, 0));
        Whole.refuses("block, letter", desk, ARGUMENT, x -> x.block(0, 6));
        Whole.refuses("block, not there", desk, STATE, x -> x.block(3, 0));
        Whole.refuses("letter", desk, INDEX, x -> x.letter(3));
        Whole.refuses("back", desk, INDEX, x -> x.back(0, 3));
        Whole.refuses("common", desk, INDEX, x -> x.common(3, 0, 0));
        Whole.refuses("common, what", desk, ARGUMENT, x -> x.common(0, 0, 3));
        Whole.refuses("only", desk, INDEX, x -> x.only(6, 0));
        Whole.refuses("only, names", desk, ARGUMENT, x -> x.only(0, 64));
        Whole.refuses("only, not there", desk, STATE, x -> x.only(3, 0));
        Whole.refuses("joined", desk, INDEX, x -> x.joined(0, 6));
        Whole.refuses("joined, not there", desk, STATE, x -> x.joined(0, 3));
    }

    private static void namedFirst() {
        Sentence.is("If several exceptions apply, the one that is named first is thrown.");
        first("say", Desks.FULL_OF_SIGNS, ARGUMENT, x -> x.say(0, 1, 2, 3, 4, 35));
        first("heir, the parent not there", Desks.BUSY, INDEX, x -> x.heir(6, 3));
        first("heir, the form not there", Desks.BUSY, INDEX, x -> x.heir(3, -1));
        first("keep, full", Desks.FULL_OF_LETTERS, INDEX, x -> x.keep(6));
        first("ofForm", Desks.BUSY, INDEX, x -> x.ofForm(6, 11));
        first("filling, form and what", Desks.BUSY, INDEX, x -> x.filling(-1, 8));
        first("filling, what and not there", Desks.BUSY, ARGUMENT, x -> x.filling(3, -1));
        first("block, form and letter", Desks.BUSY, INDEX, x -> x.block(-1, 6));
        first("block, letter and not there", Desks.BUSY, ARGUMENT, x -> x.block(3, -1));
        first("common, one and what", Desks.BUSY, INDEX, x -> x.common(3, 0, 3));
        first("common, other and what", Desks.BUSY, INDEX, x -> x.common(0, -1, -1));
        first("only, form and names", Desks.BUSY, INDEX, x -> x.only(6, 64));
        first("only, names and not there", Desks.BUSY, ARGUMENT, x -> x.only(3, -1));
        first("joined, one and not there", Desks.BUSY, INDEX, x -> x.joined(6, 3));
        first("joined, other and not there", Desks.BUSY, INDEX, x -> x.joined(3, 6));
    }

    private static void first(String call, Supplier<Blankform> maker, Class<? extends Exception> due, Consumer<Blankform> run) {
        Whole.refuses(call, maker, due, run);
    }
}
