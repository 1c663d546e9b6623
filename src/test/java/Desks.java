import java.util.function.Supplier;

/** Desks in some state, each made anew whenever it is asked for. */
final class Desks {

    static final Supplier<Blankform> NEW = Blankform::new;
    static final Supplier<Blankform> BUSY = Desks::busy;
    static final Supplier<Blankform> WITH_KINDS = Desks::withKinds;
    static final Supplier<Blankform> FULL_OF_SIGNS = () -> Check.type(busy(), "a~{b}<".repeat(10));
    static final Supplier<Blankform> FULL_OF_LETTERS = Desks::fullOfLetters;
    static final Supplier<Blankform> FULL_ROW = Desks::fullRow;

    private static final int USES = 12;
    private static Blankform used = new Blankform();
    private static int uses;

    private Desks() {
    }

    /**
     * A desk at which others have worked before, as rows are made once and used again: what was read or
     * filled there must not matter. After some uses another one is taken, as it has 512 calls alone.
     */
    static Blankform used() {
        uses++;
        if (uses > USES) {
            used = new Blankform();
            uses = 0;
        }
        used.wipe();
        return used;
    }

    /** Something of everything; the FORMS "d" to "f" are not there. */
    static Blankform busy() {
        Blankform x = new Blankform();
        Check.text(x, 0, "<ab");
        x.number(1, -1, -1, -7);
        x.truth(2, -1, -1, true);
        Check.row(x, 3, "b", " ");
        x.row(3, -1, -1, 2);
        x.number(3, 0, -1, 12);
        Check.type(x, "f").text(4, 0, -1);
        x.number(4, 1, 2, 7);
        Check.form(x, 0, "a{b} {-$a}0{/}");
        Check.form(x, 1, "{$a}1{*}{/}");
        Check.form(x, 2, "{#d}{.}{^}-{/}{>b}");
        x.heir(1, 0);
        x.keep(0);
        x.keep(1);
        x.keep(2);
        x.strict(true);
        x.blank();
        x.blank();
        x.knock();
        Check.type(x, "{a}~ b<0");
        return x;
    }

    /**
     * Of each NAME but "f" a VALUE that is no MAP, and in the MAP "f" so, too: a TEXT, a NUMBER, a
     * TRUTH, an empty ROW, and a ROW of a MAP and a TEXT behind it; in "f" the last one has a ROW there.
     */
    static Blankform withKinds() {
        Blankform x = new Blankform();
        Check.text(x, 0, "a");
        x.number(1, -1, -1, 3);
        x.truth(2, -1, -1, true);
        x.row(3, -1, -1, 0);
        x.row(4, -1, -1, 0);
        x.row(4, -1, -1, 2);
        x.row(4, -1, -1, 1);
        x.text(5, 0, -1);
        x.number(5, 1, -1, 3);
        x.truth(5, 2, -1, true);
        x.row(5, 3, -1, 0);
        x.row(5, 4, -1, 0);
        x.row(5, 4, -1, 2);
        x.row(5, 4, -1, 3);
        return x;
    }

    private static Blankform fullOfLetters() {
        Blankform x = busy();
        x.strict(false);
        for (int k = 3; k < 8; k++) {
            x.keep(k % 3);
        }
        return x;
    }

    /** The ROW "d" has 8 VALUES, the last one is a MAP with a NAME. */
    private static Blankform fullRow() {
        Blankform x = busy();
        Check.row(x, 3, "a", "b", "", "d", "e");
        x.row(3, -1, -1, 3);
        x.row(3, -1, -1, 2);
        x.row(3, -1, -1, 2);
        x.number(3, 2, -1, 5);
        return x;
    }
}
