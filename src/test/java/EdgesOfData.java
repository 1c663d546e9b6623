import java.util.function.Consumer;
import java.util.function.Supplier;

/** Section 1 of the document: what DATA takes, what it refuses, and what is found in it. */
final class EdgesOfData {

    private EdgesOfData() {
    }

    static void test() {
        Sentence.of("== 1. Data");
        names();
        values();
        emptyAtFirst();
        paths();
        throughMaps();
        throughNothing();
        throughRows();
        throughAnythingElse();
        lastName();
        lookingFor();
        wordsOfTexts();
        wordsOfNumbers();
        wordsOfTruths();
        wordsOfRows();
        wordsOfMaps();
    }

    private static void names() {
        Sentence.is("NAMES are 0 to 5 (\"a\" to \"f\").");
        Blankform x = new Blankform();
        for (int name = 0; name <= 5; name++) {
            Check.due("name " + name, x.number(name, -1, -1, 10 + name), 2);
        }
        Check.due("as letters", Check.given(x, "{f}{e}{d}{c}{b}{a}"), "151413121110");
        Check.due("all six", x.house(7), 63);
        Check.due("-1", Whole.thrown(x, y -> y.number(-1, -1, -1, 1)), IllegalArgumentException.class);
        Check.due("6", Whole.thrown(x, y -> y.number(6, -1, -1, 1)), IllegalArgumentException.class);
    }

    private static void values() {
        Sentence.is("A VALUE is a TEXT, a NUMBER, a TRUTH, a ROW (of VALUES, at most 8) or a MAP (of NAMES, each with a VALUE).");
        Blankform x = new Blankform();
        x.text(0, -1, -1);
        x.number(1, -1, -1, 0);
        x.truth(2, -1, -1, false);
        x.row(3, -1, -1, 0);
        x.number(4, 0, -1, 0);
        for (int name = 0; name <= 5; name++) {
            Check.due("the kind of " + name, x.ofData(name, -1, -1, 0), (name + 1) % 6);
        }
        for (int count = 1; count <= 8; count++) {
            Check.due("a row of " + count, x.row(3, -1, -1, count % 3 + 1), count);
        }
        for (int what = 1; what <= 3; what++) {
            int each = what;
            Check.due("a 9th value", x.row(3, -1, -1, what), -1);
            Whole.stays("row(3, " + what + ") as the 9th", Desks.FULL_ROW, y -> y.row(3, -1, -1, each));
        }
        for (int name = 0; name <= 5; name++) {
            x.number(4, name, -1, name);
            Check.due("a map of " + (name + 1), x.ofData(4, -1, -1, 1), name + 1);
        }
        Check.due("a map with a name twice", x.number(4, 5, -1, 7), 1);
        Check.due("has six still", x.ofData(4, -1, -1, 1), 6);
        Check.due("all names of a map", x.ofData(4, -1, -1, 4), 63);
    }

    private static void emptyAtFirst() {
        Sentence.is("DATA is a MAP, empty at first.");
        Blankform x = new Blankform();
        Check.due("how many names", x.house(2), 0);
        Check.due("which ones", x.house(7), 0);
        for (int[] path : Whole.paths()) {
            Check.due("a kind", x.ofData(path[0], path[1], path[2], 0), 0);
        }
        Check.due("nothing is given", Check.given(x, "{a}{b}{c}{d}{e}{f}{.}{0}{a.b.c}"), "");
    }

    private static void paths() {
        Sentence.is("A PATH has one to three NAMES (told as a, b, c; c, or b and c, may be NONE; c is not told without b).");
        for (int[] p : Whole.paths()) {
            Blankform x = new Blankform();
            String at = " at " + p[0] + ", " + p[1] + ", " + p[2];
            Check.due("number" + at, x.number(p[0], p[1], p[2], 77), 2);
            Check.due("what is there" + at, x.words(p[0], p[1], p[2]), "77");
            Check.due("names of data" + at, x.house(7), 1 << p[0]);
            Check.due("names of the next map" + at, x.ofData(p[0], -1, -1, 4), p[1] == -1 ? 0 : 1 << p[1]);
            if (p[1] != -1) {
                Check.due("names of the last map" + at, x.ofData(p[0], p[1], -1, 4), p[2] == -1 ? 0 : 1 << p[2]);
            }
        }
        for (int c = 0; c <= 5; c++) {
            int each = c;
            Whole.refuses("c " + c + " without b", Desks.BUSY, IllegalArgumentException.class, y -> y.number(0, -1, each, 1));
        }
    }

    private static void throughMaps() {
        Sentence.is("To TELL a VALUE at a PATH: from DATA on, for each NAME but the last one: what has that NAME in the MAP"
                + " is the next MAP;");
        Blankform x = new Blankform();
        x.number(0, 1, 2, 1);
        x.number(0, 1, 3, 2);
        x.number(0, 4, -1, 3);
        Check.due("one map deep", x.ofData(0, -1, -1, 4), 18);
        Check.due("two maps deep", x.ofData(0, 1, -1, 4), 12);
        Check.due("the first one stays", x.ofData(0, 1, 2, 3), 1);
        x.take(0, 1, 2);
        x.take(0, 1, 3);
        Check.due("through an empty map", x.number(0, 1, 5, 4), 1);
        Check.due("that one is told on", x.ofData(0, 1, -1, 4), 32);
    }

    private static void throughNothing() {
        Sentence.is("if there is nothing yet, it becomes an empty MAP;");
        Blankform x = new Blankform();
        Check.due("nothing at all", x.truth(3, 3, 3, true), 0);
        Check.due("the first map", x.ofData(3, -1, -1, 4), 8);
        Check.due("the second map", x.ofData(3, 3, -1, 4), 8);
        Check.due("the second one of two", x.row(3, 0, 1, 0), 0);
        Check.due("both in the first map", x.ofData(3, -1, -1, 4), 9);
        Check.due("alone in the second map", x.ofData(3, 0, -1, 4), 2);
        Check.due("in the last map of a row", x.row(4, -1, -1, 0) + x.row(4, -1, -1, 2), 1);
        Check.due("there, too", x.text(4, 5, 0), 0);
        Check.due("a map in that map", x.ofData(4, 5, -1, 0), 5);
    }

    private static void throughRows() {
        Sentence.is("if it is a ROW whose last VALUE is a MAP, that is the next MAP;");
        Blankform x = new Blankform();
        x.row(0, -1, -1, 0);
        x.row(0, -1, -1, 2);
        Check.due("a row of a map", x.number(0, 1, -1, 5), 1);
        x.row(0, -1, -1, 2);
        Check.due("of the last map alone", x.ofData(0, 1, -1, 0), 0);
        Check.due("into the last of two maps", x.number(0, 2, -1, 6), 1);
        Check.due("one has this, the other that", Check.given(x, "{#a}{b}:{c} {/}"), "5: :6 ");
        x.row(0, 3, -1, 0);
        x.row(0, 3, -1, 2);
        Check.due("a row in a map in a row", x.number(0, 3, 4, 7), 1);
        Check.due("found there", x.words(0, 3, 4), "7");
        Check.due("the row stays a row", x.ofData(0, 3, -1, 0), 4);
        x = Desks.FULL_ROW.get();
        Check.due("the last one of eight", x.words(3, 2, -1), "5");
        Check.due("told there", x.number(3, 5, -1, 99), 2);
        Check.due("and found", x.words(3, 5, -1), "99");
    }

    /** TELLS at a PATH; what comes back must be NONE if it CANNOT BE. */
    private interface Tells {
        int at(Blankform x, int a, int b, int c);
    }

    private static void throughAnythingElse() {
        Sentence.is("if it is anything else, it CANNOT BE, and nothing changes.");
        Tells[] all = {(x, a, b, c) -> x.text(a, b, c), (x, a, b, c) -> x.number(a, b, c, 5),
            (x, a, b, c) -> x.truth(a, b, c, true), (x, a, b, c) -> x.row(a, b, c, 0)};
        for (int call = 0; call < all.length; call++) {
            Tells tells = all[call];
            for (int name = 0; name < 5; name++) {
                int each = name;
                cannotBe("call " + call + " through " + name, x -> tells.at(x, each, 0, -1));
                cannotBe("call " + call + " through " + name + ", two names ahead", x -> tells.at(x, each, 0, 0));
                cannotBe("call " + call + " through 5 and " + name, x -> tells.at(x, 5, each, 0));
            }
        }
        Blankform x = new Blankform();
        x.row(0, -1, -1, 0);
        x.row(0, -1, -1, 2);
        x.row(0, -1, -1, 3);
        Check.due("the last one is a row", x.number(0, 1, -1, 1), -1);
        Check.text(x, 1, "");
        Check.due("the empty text", x.number(1, 1, -1, 1), -1);
        x.number(2, -1, -1, 0);
        Check.due("the number 0", x.number(2, 1, 1, 1), -1);
        x.truth(3, -1, -1, false);
        Check.due("no", x.number(3, 1, -1, 1), -1);
    }

    private interface Told {
        int of(Blankform x);
    }

    private static void cannotBe(String call, Told told) {
        Check.due(call, told.of(Desks.WITH_KINDS.get()), -1);
        Whole.stays(call, Desks.WITH_KINDS, x -> told.of(x));
    }

    private static void lastName() {
        Sentence.is("In the MAP at which one arrives, the last NAME gets the VALUE.");
        for (int kind = 1; kind <= 5; kind++) {
            for (int other = 1; other <= 4; other++) {
                Blankform x = new Blankform();
                tellKind(x, kind);
                tellKind(x, other);
                Check.due("kind " + other + " in place of " + kind, x.ofData(0, 1, 2, 0), other);
                Check.due("alone with its name", x.ofData(0, 1, -1, 4), 4);
            }
        }
        Blankform x = new Blankform();
        x.number(0, 1, 2, 7);
        x.number(0, 1, -1, 8);
        Check.due("in place of a map", x.words(0, 1, -1), "8");
        Check.due("what was in it is gone", x.words(0, 1, 2), "!");
        x.number(0, -1, -1, 9);
        x.number(5, -1, -1, 9);
        Check.due("in data itself", x.house(7), 33);
        Check.due("so many", x.house(2), 2);
    }

    private static void tellKind(Blankform x, int kind) {
        switch (kind) {
            case 1:
                x.text(0, 1, 2);
                break;
            case 2:
                x.number(0, 1, 2, 0);
                break;
            case 3:
                x.truth(0, 1, 2, false);
                break;
            default:
                x.row(0, 1, 2, 0);
                if (kind == 5) {
                    x.row(0, 1, 2, 2);
                }
                break;
        }
    }

    private static void lookingFor() {
        Sentence.is("To LOOK FOR one (as take(), ofData() and words() do, and row() for 1 to 3): likewise, but if there is"
                + " nothing, or anything else, there is none.");
        int[][] nowhere = {{5, 5, -1}, {5, 5, 5}, {5, 4, 0}, {0, 0, -1}, {1, 0, -1}, {2, 0, -1}, {3, 0, -1}, {4, 0, -1},
            {0, 0, 0}, {3, 0, 0}, {4, 0, 0}, {5, 0, 0}, {5, 1, 0}, {5, 2, 0}, {5, 3, 0}};
        for (int[] p : nowhere) {
            noneAt(Desks.WITH_KINDS, p[0], p[1], p[2]);
        }
        noneAt(Desks.NEW, 0, -1, -1);
        noneAt(Desks.NEW, 0, 1, -1);
        noneAt(Desks.NEW, 0, 1, 2);
        Blankform x = Desks.BUSY.get();
        Check.due("words() through a row's last map", x.words(3, 0, -1), "12");
        Check.due("ofData() so, too", x.ofData(3, 0, -1, 3), 12);
        x.row(3, 1, -1, 0);
        Check.due("row() so, too", x.row(3, 1, -1, 3), 1);
        Check.due("take() so, too", x.take(3, 0, -1), true);
        Check.due("that one is gone", x.ofData(3, 0, -1, 0), 0);
        Check.due("the row of that map is not", x.ofData(3, 1, -1, 1), 1);
    }

    private static void noneAt(Supplier<Blankform> maker, int a, int b, int c) {
        String at = " at " + a + ", " + b + ", " + c;
        Blankform x = maker.get();
        Check.due("words()" + at, x.words(a, b, c), "!");
        for (int what = 0; what <= 4; what++) {
            Check.due("ofData() " + what + at, x.ofData(a, b, c, what), 0);
        }
        Check.due("take()" + at, x.take(a, b, c), false);
        Whole.stays("take()" + at, maker, y -> y.take(a, b, c));
        Consumer<Blankform> reads = y -> y.words(a, b, c);
        Whole.stays("words()" + at, maker, reads);
        for (int what = 1; what <= 3; what++) {
            int each = what;
            Check.due("row() " + what + at, x.row(a, b, c, what), -1);
            Whole.stays("row() " + what + at, maker, y -> y.row(a, b, c, each));
        }
    }

    private static void wordsOfTexts() {
        Sentence.is("WORDS of a VALUE: a TEXT itself;");
        String[] texts = {"", "a", " ", "~", "{}<", "<0", "a".repeat(60), "{<~ }!".repeat(10)};
        for (String text : texts) {
            Blankform x = new Blankform();
            Check.text(x, 0, text);
            Check.due("words", x.words(0, -1, -1), text);
            Check.due("their length", x.ofData(0, -1, -1, 1), text.length());
        }
    }

    private static void wordsOfNumbers() {
        Sentence.is("a NUMBER its digits (\"-\" ahead of one below 0);");
        Blankform x = new Blankform();
        int calls = 0;
        for (int number = -9999; number <= 9999; number++) {
            if (calls >= 510) {
                x = new Blankform();
                calls = 0;
            }
            String due = Integer.toString(number);
            Check.due("number " + number, x.number(0, -1, -1, number), due.length());
            Check.due("words of " + number, x.words(0, -1, -1), due);
            calls += 2;
        }
    }

    private static void wordsOfTruths() {
        Sentence.is("a TRUTH \"yes\" or \"no\";");
        Blankform x = new Blankform();
        x.truth(0, -1, -1, true);
        Check.due("yes", x.words(0, -1, -1), "yes");
        x.truth(0, -1, -1, false);
        Check.due("no", x.words(0, -1, -1), "no");
    }

    private static void wordsOfRows() {
        Sentence.is("a ROW those of its VALUES, one behind the other;");
        Blankform x = new Blankform();
        x.row(0, -1, -1, 0);
        Check.due("of the empty one", x.words(0, -1, -1), "");
        Check.row(x, 0, "b");
        Check.due("of one", x.words(0, -1, -1), "b");
        Check.row(x, 0, "b", "", " a", "<");
        Check.due("of four", x.words(0, -1, -1), "b a<");
        x.row(0, -1, -1, 3);
        Check.due("with a row", x.words(0, -1, -1), "b a<");
        x.row(0, -1, -1, 2);
        x.number(0, 0, -1, 5);
        Check.due("with a map", x.words(0, -1, -1), "b a<");
        Check.type(x, "c").row(0, -1, -1, 1);
        Check.due("with a text behind these", x.words(0, -1, -1), "b a<c");
        Check.row(x, 0, "a".repeat(60), "b".repeat(60), "c".repeat(60), "d".repeat(60), "e".repeat(60), "f".repeat(60),
                "0".repeat(60), "1".repeat(59) + "2");
        Check.due("the longest", x.words(0, -1, -1).length(), 480);
        Check.due("its end", x.words(0, -1, -1).substring(419), "0" + "1".repeat(59) + "2");
    }

    private static void wordsOfMaps() {
        Sentence.is("a MAP \"\".");
        Blankform x = new Blankform();
        x.number(0, 0, 0, 1);
        Check.due("with a name", x.words(0, -1, -1), "");
        Check.due("inside", x.words(0, 0, -1), "");
        x.take(0, 0, 0);
        Check.due("the empty one", x.words(0, 0, -1), "");
    }
}
