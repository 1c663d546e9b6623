/**
 * A desk at which letters are filled from forms. The words in capitals are those of the document;
 * README.md tells how the parts of this file work together.
 */
public final class Blankform {

    private static final int NONE = -1;
    private static final int NAME_COUNT = 6;
    private static final int ALL_NAMES = 63;
    private static final int FORM_COUNT = 6;
    private static final int TYPED_ROOM = 60;
    private static final int LETTER_ROOM = 200;
    private static final int LETTER_COUNT = 8;
    private static final int ROW_ROOM = 8;
    private static final int FILTERS_IN_A_ROW = 4;
    private static final int TAKES_ONE_OFF = 33;
    private static final int TAKES_ALL_OFF = 34;
    private static final long DIGEST_START = 7541;
    private static final String FAILS = "!";

    /** The signs of the codes 0 to 32. */
    private static final char[] KEYS = {
        'a', 'b', 'c', 'd', 'e', 'f', ' ', '~', '{', '}', '#', '^', '/', '.', '|', ':', '>', '!', '-', '=', '$', '*',
        '<', '0', '1', '2', '3', '4', '5', '6', '7', '8', '9'
    };
    private static final char[] YES = {'y', 'e', 's'};
    private static final char[] NO = {'n', 'o'};
    private static final char[] NO_SIGNS = {};

    private final Signs typed;
    private final Data data;
    private final Shelf shelf;
    private final Reader reader;
    private final Filler filler;
    private final Match match;
    private final Work work;
    private final Signs[] letters;
    private final Signs spare;
    private final Signs given;
    private int letterCount;
    private boolean isStrict;
    private int blanks;
    private int knocks;

    public Blankform() {
        typed = new Signs(TYPED_ROOM);
        data = new Data();
        shelf = new Shelf();
        reader = new Reader(shelf.at(Shelf.TYPED));
        filler = new Filler(shelf, data);
        match = new Match();
        work = new Work();
        letters = new Signs[LETTER_COUNT];
        for (int k = 0; k < letters.length; k++) {
            letters[k] = new Signs(LETTER_ROOM);
        }
        spare = new Signs(Work.ROOM);
        given = new Signs(Work.ROOM);
    }

    // ---- what is typed, and data

    public int say(int a, int b, int c, int d, int e, int f) throws IllegalArgumentException, IllegalStateException {
        checkCode(a);
        checkCode(b);
        checkCode(c);
        checkCode(d);
        checkCode(e);
        checkCode(f);
        int length = typed.length;
        length = lengthBehind(length, a);
        length = lengthBehind(length, b);
        length = lengthBehind(length, c);
        length = lengthBehind(length, d);
        length = lengthBehind(length, e);
        lengthBehind(length, f);
        press(a);
        press(b);
        press(c);
        press(d);
        press(e);
        press(f);
        return typed.length;
    }

    public int text(int a, int b, int c) throws IllegalArgumentException {
        checkPath(a, b, c);
        return data.tell(a, b, c, Value.ofText(typed)) ? typed.length : NONE;
    }

    public int number(int a, int b, int c, int number) throws IllegalArgumentException {
        checkPath(a, b, c);
        checkRange(number, -9999, 9999);
        Value value = Value.ofNumber(number);
        return data.tell(a, b, c, value) ? value.signs.length : NONE;
    }

    public int truth(int a, int b, int c, boolean is) throws IllegalArgumentException {
        checkPath(a, b, c);
        int before = data.find(a, b, c) == null ? 0 : 1;
        return data.tell(a, b, c, Value.ofTruth(is)) ? before : NONE;
    }

    public int row(int a, int b, int c, int what) throws IllegalArgumentException {
        checkPath(a, b, c);
        checkRange(what, 0, 3);
        if (what == 0) {
            return data.tell(a, b, c, Value.emptyRow()) ? 0 : NONE;
        }
        Value row = data.find(a, b, c);
        if (row == null || row.kind != Value.ROW || row.count >= ROW_ROOM) {
            return NONE;
        }
        row.add(what == 1 ? Value.ofText(typed) : what == 2 ? Value.emptyMap() : Value.emptyRow());
        return row.count;
    }

    public boolean take(int a, int b, int c) throws IllegalArgumentException {
        checkPath(a, b, c);
        return data.remove(a, b, c);
    }

    public int wipe() {
        int had = data.root.count;
        data.root.removeAll();
        return had;
    }

    // ---- forms and letters

    public int form(int form) throws IndexOutOfBoundsException {
        checkForm(form);
        if (readTyped() != NONE) {
            return NONE;
        }
        shelf.putTyped(form);
        return shelf.at(form).count;
    }

    public int heir(int form, int parent) throws IndexOutOfBoundsException, IllegalStateException {
        checkForm(form);
        checkForm(parent);
        checkThere(form);
        checkThere(parent);
        if (shelf.isInChain(form, parent)) {
            throw new IllegalStateException("a form can't be an heir of itself");
        }
        return shelf.setParent(form, parent);
    }

    public int lone(int form) throws IndexOutOfBoundsException, IllegalStateException {
        checkForm(form);
        checkThere(form);
        return shelf.setParent(form, NONE);
    }

    public boolean strict(boolean is) {
        boolean was = isStrict;
        isStrict = is;
        return was;
    }

    public int keep(int form) throws IndexOutOfBoundsException, IllegalStateException {
        checkForm(form);
        checkThere(form);
        int number = letterCount;
        if (number < 0 || number >= letters.length) {
            throw new IllegalStateException("there is no room for one more letter");
        }
        if (filler.run(form, ALL_NAMES, isStrict) != 0) {
            return NONE;
        }
        letters[number].copy(filler.out);
        letterCount = number + 1;
        return number;
    }

    public int burn() {
        int had = letterCount;
        letterCount = 0;
        return had;
    }

    public int blank() {
        blanks++;
        return -9;
    }

    public int knock() {
        knocks++;
        return knocks;
    }

    // ---- what is asked of data and of what is typed

    public String typed() {
        return typed.told();
    }

    public int fault(boolean isLine) {
        int fault = readTyped();
        if (fault == NONE || !isLine) {
            return fault;
        }
        int line = 0;
        for (int k = 0; k < fault; k++) {
            if (typed.at(k) == '~') {
                line++;
            }
        }
        return line;
    }

    public int ofData(int a, int b, int c, int what) throws IllegalArgumentException {
        checkPath(a, b, c);
        checkRange(what, 0, 4);
        Value value = data.find(a, b, c);
        if (value == null) {
            return 0;
        }
        switch (what) {
            case 0:
                return value.kind;
            case 1:
                return value.size();
            case 2:
                return value.isShown() ? 1 : 0;
            case 3:
                return value.number;
            default:
                return value.names();
        }
    }

    public String words(int a, int b, int c) throws IllegalArgumentException {
        checkPath(a, b, c);
        return putWords(a, b, c) ? spare.told() : FAILS;
    }

    public String escape() {
        spare.clear();
        spare.putEscaped(typed);
        return spare.told();
    }

    public String unescape() {
        spare.clear();
        spare.putUnescaped(typed);
        return spare.told();
    }

    public String filter(int filter) throws IllegalArgumentException {
        checkRange(filter, 0, 9);
        spare.clear();
        spare.put('|');
        spare.put((char) ('0' + filter));
        work.begin(Value.ofText(typed));
        work.change(spare, 0, spare.length);
        return work.text.told();
    }

    public int house(int what) throws IllegalArgumentException {
        checkRange(what, 0, 7);
        switch (what) {
            case 0:
                return Integer.bitCount(shelf.there);
            case 1:
                return letterCount;
            case 2:
                return data.root.count;
            case 3:
                return typed.length;
            case 4:
                return isStrict ? 1 : 0;
            case 5:
                return blanks;
            case 6:
                return knocks;
            default:
                return data.root.names();
        }
    }

    // ---- what is asked of forms and letters

    public int ofForm(int form, int what) throws IndexOutOfBoundsException, IllegalArgumentException {
        checkForm(form);
        checkRange(what, 0, 10);
        if (!shelf.isThere(form)) {
            return what == 6 ? NONE : 0;
        }
        Form asked = shelf.at(form);
        switch (what) {
            case 0:
                return 1;
            case 1:
                return asked.count;
            case 2:
                return asked.countOf(Piece.PLACE) + asked.countOf(Piece.RAW);
            case 3:
                return asked.countOf(Piece.SECTION);
            case 4:
                return asked.countOf(Piece.PART);
            case 5:
                return asked.countOf(Piece.BLOCK);
            case 6:
                return shelf.parentOf(form);
            case 7:
                return asked.signs.length;
            case 8:
                return asked.blockLetters;
            case 9:
                return asked.eaten;
            default:
                return shelf.chainLength(form);
        }
    }

    public String fill(int form) throws IndexOutOfBoundsException, IllegalStateException {
        checkForm(form);
        checkThere(form);
        return filler.run(form, ALL_NAMES, isStrict) == 0 ? filler.out.told() : FAILS;
    }

    public int filling(int form, int what)
            throws IndexOutOfBoundsException, IllegalArgumentException, IllegalStateException {
        checkForm(form);
        checkRange(what, 0, 7);
        checkThere(form);
        filler.run(form, ALL_NAMES, isStrict);
        return filler.told(what);
    }

    public int asks(int form) throws IndexOutOfBoundsException, IllegalStateException {
        checkForm(form);
        checkThere(form);
        return shelf.namesAsked(form);
    }

    public int block(int form, int letter)
            throws IndexOutOfBoundsException, IllegalArgumentException, IllegalStateException {
        checkForm(form);
        checkRange(letter, 0, NAME_COUNT - 1);
        checkThere(form);
        return shelf.withBlock(form, letter);
    }

    public String letter(int letter) throws IndexOutOfBoundsException {
        checkLetter(letter);
        return letterAt(letter).told();
    }

    public String back(int one, int other) throws IndexOutOfBoundsException {
        checkLetter(one);
        checkLetter(other);
        match.compare(letterAt(one), letterAt(other));
        return match.shape.told();
    }

    public int common(int one, int other, int what) throws IndexOutOfBoundsException, IllegalArgumentException {
        checkLetter(one);
        checkLetter(other);
        checkRange(what, 0, 2);
        match.compare(letterAt(one), letterAt(other));
        return match.told(what);
    }

    // ---- what would be

    public int only(int form, int names)
            throws IndexOutOfBoundsException, IllegalArgumentException, IllegalStateException {
        checkForm(form);
        checkRange(names, 0, ALL_NAMES);
        checkThere(form);
        return filler.run(form, names, isStrict) == 0 ? filler.out.length : NONE;
    }

    public String joined(int one, int other) throws IndexOutOfBoundsException, IllegalStateException {
        checkForm(one);
        checkForm(other);
        checkThere(one);
        checkThere(other);
        joinSigns(one, other);
        if (reader.read(spare, shelf.at(Shelf.JOINED)) != NONE) {
            return FAILS;
        }
        return filler.run(Shelf.JOINED, ALL_NAMES, isStrict) == 0 ? filler.out.told() : FAILS;
    }

    public int wouldGive(boolean isStrict) {
        if (readTyped() != NONE || filler.run(Shelf.TYPED, ALL_NAMES, isStrict) != 0) {
            return NONE;
        }
        return filler.out.length;
    }

    public boolean isSound() {
        if (!isEscapeSound() || !areLettersSound()) {
            return false;
        }
        int before = NONE;
        for (int form = 0; form < FORM_COUNT; form++) {
            if (!shelf.isThere(form)) {
                continue;
            }
            if (!isAskSound(form) || !isTextSound(form) || !isPartSound(form)) {
                return false;
            }
            if (before != NONE && !isJoinSound(before, form)) {
                return false;
            }
            before = form;
        }
        return true;
    }

    public long digest() {
        long d = DIGEST_START;
        for (int what = 0; what <= 7; what++) {
            d = mix(d, house(what));
        }
        d = mix(d, fault(false));
        d = mix(d, fault(true));
        d = mixData(d);
        d = mixForms(d);
        d = mixLetters(d);
        spare.clear();
        spare.putEscaped(typed);
        d = mix(d, spare.length);
        d = mix(d, wouldGive(false));
        d = mix(d, wouldGive(true));
        return mix(d, isSound() ? 1 : 0);
    }

    // ---- what the calls above are made of

    private static void checkCode(int code) {
        if (code < NONE || code > TAKES_ALL_OFF) {
            throw new IllegalArgumentException("there is no such code");
        }
    }

    private static void checkRange(int number, int least, int most) {
        if (number < least || number > most) {
            throw new IllegalArgumentException("this number is out of its range");
        }
    }

    private static void checkPath(int a, int b, int c) {
        if (a < 0 || a >= NAME_COUNT || b < NONE || b >= NAME_COUNT || c < NONE || c >= NAME_COUNT) {
            throw new IllegalArgumentException("there is no such name");
        }
        if (c != NONE && b == NONE) {
            throw new IllegalArgumentException("a third name needs a second one");
        }
    }

    private static void checkForm(int form) {
        if (form < 0 || form >= FORM_COUNT) {
            throw new IndexOutOfBoundsException("forms are 0 to 5");
        }
    }

    private void checkThere(int form) {
        if (!shelf.isThere(form)) {
            throw new IllegalStateException("this form is not there");
        }
    }

    private void checkLetter(int letter) {
        if (letter < 0 || letter >= letterCount) {
            throw new IndexOutOfBoundsException("there is no such letter");
        }
    }

    private static int lengthBehind(int length, int code) {
        if (code == NONE) {
            return length;
        }
        if (code == TAKES_ALL_OFF) {
            return 0;
        }
        if (code == TAKES_ONE_OFF) {
            return Math.max(length - 1, 0);
        }
        if (length >= TYPED_ROOM) {
            throw new IllegalStateException("no more than 60 signs can be typed");
        }
        return length + 1;
    }

    private void press(int code) {
        if (code == TAKES_ALL_OFF) {
            typed.clear();
        } else if (code == TAKES_ONE_OFF) {
            typed.cut(typed.length - 1);
        } else if (code >= 0 && code < KEYS.length) {
            typed.put(KEYS[code]);
        }
    }

    private Signs letterAt(int letter) {
        return letter >= 0 && letter < letters.length ? letters[letter] : spare;
    }

    private boolean putWords(int a, int b, int c) {
        Value value = data.find(a, b, c);
        if (value == null) {
            return false;
        }
        spare.clear();
        value.putWordsInto(spare);
        return true;
    }

    private int readTyped() {
        return reader.read(typed, shelf.at(Shelf.TYPED));
    }

    private void joinSigns(int one, int two) {
        spare.copy(shelf.at(one).signs);
        spare.putAll(shelf.at(two).signs);
    }

    private boolean isEscapeSound() {
        spare.clear();
        spare.putEscaped(typed);
        given.clear();
        given.putUnescaped(spare);
        for (int k = 0; k < spare.length; k++) {
            if (spare.at(k) == '{' || spare.at(k) == '}') {
                return false;
            }
        }
        return given.isSame(typed);
    }

    private boolean isAskSound(int form) {
        int failure = filler.run(form, ALL_NAMES, isStrict);
        given.copy(filler.out);
        int again = filler.run(form, shelf.namesAsked(form), isStrict);
        return failure == again && (failure != 0 || given.isSame(filler.out));
    }

    private boolean isTextSound(int form) {
        if (shelf.parentOf(form) != NONE || !shelf.at(form).isWithoutTags()) {
            return true;
        }
        return filler.run(form, ALL_NAMES, isStrict) == 0 && filler.out.isSame(shelf.at(form).signs);
    }

    private boolean isPartSound(int form) {
        int part = shelf.at(form).partAlone();
        if (shelf.parentOf(form) != NONE || !shelf.isThere(part)) {
            return true;
        }
        int failure = filler.run(part, ALL_NAMES, isStrict);
        if (filler.most > 9 || filler.parts + filler.blocks > 59) {
            return true;
        }
        given.copy(filler.out);
        int again = filler.run(form, ALL_NAMES, isStrict);
        return failure == again && (failure != 0 || given.isSame(filler.out));
    }

    private boolean isJoinSound(int one, int two) {
        joinSigns(one, two);
        if (!isJoinable(one) || !isJoinable(two) || reader.read(spare, shelf.at(Shelf.JOINED)) != NONE) {
            return true;
        }
        if (filler.run(one, ALL_NAMES, isStrict) != 0) {
            return true;
        }
        given.copy(filler.out);
        if (filler.run(two, ALL_NAMES, isStrict) != 0) {
            return true;
        }
        given.putAll(filler.out);
        return filler.run(Shelf.JOINED, ALL_NAMES, isStrict) != 0 || given.isSame(filler.out);
    }

    private boolean isJoinable(int form) {
        return shelf.parentOf(form) == NONE && !shelf.at(form).hasEater();
    }

    private boolean areLettersSound() {
        if (letterCount < 2) {
            return true;
        }
        match.compare(letterAt(0), letterAt(1));
        return letterAt(0).hasInOrder(match.shared) && letterAt(1).hasInOrder(match.shared);
    }

    private static long mix(long d, long number) {
        return d * 31 + number;
    }

    private long mixData(long before) {
        long d = before;
        for (int name = 0; name < NAME_COUNT; name++) {
            for (int what = 0; what <= 4; what++) {
                d = mix(d, ofData(name, NONE, NONE, what));
            }
            d = mix(d, putWords(name, NONE, NONE) ? spare.length : FAILS.length());
        }
        return d;
    }

    private long mixForms(long before) {
        long d = before;
        for (int form = 0; form < FORM_COUNT; form++) {
            for (int what = 0; what <= 10; what++) {
                d = mix(d, ofForm(form, what));
            }
            if (!shelf.isThere(form)) {
                continue;
            }
            filler.run(form, ALL_NAMES, isStrict);
            for (int what = 0; what <= 7; what++) {
                d = mix(d, filler.told(what));
            }
            d = mix(d, shelf.namesAsked(form));
        }
        return d;
    }

    private long mixLetters(long before) {
        long d = before;
        for (int letter = 0; letter < letterCount; letter++) {
            d = mix(d, letterAt(letter).length);
        }
        if (letterCount < 2) {
            return d;
        }
        match.compare(letterAt(0), letterAt(1));
        for (int what = 0; what <= 2; what++) {
            d = mix(d, match.told(what));
        }
        return mix(d, match.shape.length);
    }

    /** A row of signs in an array that is made once and used again. */
    private static final class Signs {

        private final char[] all;
        private int length;

        private Signs(int room) {
            all = new char[Math.max(room, 0)];
        }

        private char at(int index) {
            return index >= 0 && index < length && index < all.length ? all[index] : (char) 0;
        }

        private void clear() {
            length = 0;
        }

        private void cut(int to) {
            length = Math.max(0, Math.min(length, to));
        }

        /** Answers false, if there is no room for the sign. */
        private boolean put(char sign) {
            if (length < 0 || length >= all.length) {
                return false;
            }
            all[length] = sign;
            length++;
            return true;
        }

        private void putSigns(char[] more, int count) {
            int fits = Math.min(Math.min(count, more.length), all.length - length);
            if (fits > 0 && length >= 0) {
                System.arraycopy(more, 0, all, length, fits);
                length += fits;
            }
        }

        private void putAll(Signs more) {
            putSigns(more.all, more.length);
        }

        private void copy(Signs from) {
            length = 0;
            putSigns(from.all, from.length);
        }

        private void putEscaped(Signs from) {
            for (int k = 0; k < from.length; k++) {
                char sign = from.at(k);
                char code = codeOf(sign);
                if (code == 0) {
                    put(sign);
                } else {
                    put('<');
                    put(code);
                }
            }
        }

        private void putUnescaped(Signs from) {
            for (int k = 0; k < from.length; k++) {
                char sign = from.at(k);
                char meant = sign == '<' ? signOf(from.at(k + 1)) : (char) 0;
                if (meant == 0) {
                    put(sign);
                } else {
                    put(meant);
                    k++;
                }
            }
        }

        /** What stands behind "<" for a sign that is escaped; 0 for one that is not. */
        private static char codeOf(char sign) {
            return sign == '{' ? '1' : sign == '}' ? '2' : sign == '<' ? '0' : (char) 0;
        }

        private static char signOf(char code) {
            return code == '1' ? '{' : code == '2' ? '}' : code == '0' ? '<' : (char) 0;
        }

        private void putNumber(int number) {
            if (number < 0) {
                put('-');
            }
            int left = Math.abs(number);
            int unit = 1;
            for (int digits = 1; digits < 9 && unit * 10 <= left; digits++) {
                unit *= 10;
            }
            for (int by = unit; by > 0; by /= 10) {
                put((char) ('0' + left / by % 10));
            }
        }

        private void trim() {
            int from = 0;
            while (from < length && at(from) == ' ') {
                from++;
            }
            int to = length;
            while (to > from && at(to - 1) == ' ') {
                to--;
            }
            narrow(from, to);
        }

        /** Leaves only the signs from the first number on and below the second one. */
        private void narrow(int from, int to) {
            if (from < 0 || from > to || to > length || to > all.length) {
                return;
            }
            System.arraycopy(all, from, all, 0, to - from);
            length = to - from;
        }

        private void raise() {
            for (int k = 0; k < length && k < all.length; k++) {
                char sign = all[k];
                if (sign >= 'a' && sign <= 'f') {
                    all[k] = (char) (sign - 'a' + 'A');
                }
            }
        }

        private void turn() {
            int to = Math.min(length, all.length) - 1;
            for (int from = 0; from < to; from++) {
                char sign = all[from];
                all[from] = all[to];
                all[to] = sign;
                to--;
            }
        }

        private boolean isSame(Signs as) {
            if (length != as.length) {
                return false;
            }
            for (int k = 0; k < length; k++) {
                if (at(k) != as.at(k)) {
                    return false;
                }
            }
            return true;
        }

        private boolean hasInOrder(Signs some) {
            int found = 0;
            for (int k = 0; k < length && found < some.length; k++) {
                if (at(k) == some.at(found)) {
                    found++;
                }
            }
            return found == some.length;
        }

        private char[] copied() {
            int count = Math.max(0, Math.min(length, all.length));
            char[] signs = new char[count];
            System.arraycopy(all, 0, signs, 0, count);
            return signs;
        }

        private String told() {
            return new String(copied());
        }
    }

    /** A VALUE. Where there is none, the reference is null. */
    private static final class Value {

        private static final int MISSING = 0;
        private static final int TEXT = 1;
        private static final int NUMBER = 2;
        private static final int TRUTH = 3;
        private static final int ROW = 4;
        private static final int MAP = 5;

        private final int kind;
        private final int number;
        /** The WORDS of a TEXT, a NUMBER or a TRUTH. */
        private final char[] signs;
        /** The VALUES of a ROW one behind the other, those of a MAP by NAMES. */
        private final Value[] parts;
        private int count;

        private Value(int kind, int number, char[] signs, int room) {
            this.kind = kind;
            this.number = number;
            this.signs = signs;
            parts = new Value[Math.max(room, 0)];
        }

        private static Value ofText(Signs text) {
            return new Value(TEXT, 0, text.copied(), 0);
        }

        private static Value ofNumber(int number) {
            Signs digits = new Signs(12);
            digits.putNumber(number);
            return new Value(NUMBER, number, digits.copied(), 0);
        }

        private static Value ofTruth(boolean is) {
            return new Value(TRUTH, 0, is ? YES : NO, 0);
        }

        private static Value emptyRow() {
            return new Value(ROW, 0, NO_SIGNS, ROW_ROOM);
        }

        private static Value emptyMap() {
            return new Value(MAP, 0, NO_SIGNS, NAME_COUNT);
        }

        private Value at(int index) {
            return index >= 0 && index < parts.length ? parts[index] : null;
        }

        private Value named(int name) {
            return kind == MAP && name >= 0 && name < parts.length ? parts[name] : null;
        }

        private Value last() {
            return kind == ROW ? at(count - 1) : null;
        }

        private void add(Value value) {
            if (kind == ROW && count >= 0 && count < parts.length) {
                parts[count] = value;
                count++;
            }
        }

        /** Gives a NAME of a MAP a VALUE, or, with null, none any more. */
        private void set(int name, Value value) {
            if (kind != MAP || name < 0 || name >= parts.length) {
                return;
            }
            if (parts[name] != null) {
                count--;
            }
            if (value != null) {
                count++;
            }
            parts[name] = value;
        }

        private void removeAll() {
            for (int k = 0; k < parts.length; k++) {
                parts[k] = null;
            }
            count = 0;
        }

        private int size() {
            return kind == ROW || kind == MAP ? count : signs.length;
        }

        private boolean isShown() {
            switch (kind) {
                case NUMBER:
                    return number != 0;
                case TRUTH:
                    return signs.length == YES.length;
                default:
                    return size() > 0;
            }
        }

        private int names() {
            int names = 0;
            for (int name = 0; name < parts.length; name++) {
                if (kind == MAP && parts[name] != null) {
                    names |= 1 << name;
                }
            }
            return names;
        }

        /** A ROW in a ROW stays empty (no PATH leads to it), so one loop is deep enough. */
        private void putWordsInto(Signs out) {
            out.putSigns(signs, signs.length);
            for (int k = 0; kind == ROW && k < count; k++) {
                Value part = at(k);
                if (part != null) {
                    out.putSigns(part.signs, part.signs.length);
                }
            }
        }
    }

    /** DATA, and the PATHS in it. */
    private static final class Data {

        private final Value root;

        private Data() {
            root = Value.emptyMap();
        }

        /** The MAP in which the last NAME of a PATH stands; null, if there is no way to it. */
        private Value mapFor(int a, int b, int c, boolean makes) {
            Value map = root;
            if (b != NONE) {
                map = nextMap(map, a, makes);
            }
            if (c != NONE && map != null) {
                map = nextMap(map, b, makes);
            }
            return map;
        }

        private static Value nextMap(Value map, int name, boolean makes) {
            Value next = map.named(name);
            if (next == null && makes) {
                next = Value.emptyMap();
                map.set(name, next);
            }
            if (next != null && next.kind == Value.ROW) {
                next = next.last();
            }
            return next != null && next.kind == Value.MAP ? next : null;
        }

        private static int lastName(int a, int b, int c) {
            return c != NONE ? c : b != NONE ? b : a;
        }

        private Value find(int a, int b, int c) {
            Value map = mapFor(a, b, c, false);
            return map == null ? null : map.named(lastName(a, b, c));
        }

        private boolean tell(int a, int b, int c, Value value) {
            Value map = mapFor(a, b, c, true);
            if (map == null) {
                return false;
            }
            map.set(lastName(a, b, c), value);
            return true;
        }

        private boolean remove(int a, int b, int c) {
            if (find(a, b, c) == null) {
                return false;
            }
            Value map = mapFor(a, b, c, false);
            if (map != null) {
                map.set(lastName(a, b, c), null);
            }
            return true;
        }
    }

    /** A TEXT or a TAG of a FORM; the object is used again for what is read next. */
    private static final class Piece {

        private static final int TEXT = 1;
        private static final int COMMENT = 2;
        private static final int SECTION = 3;
        private static final int ELSE = 4;
        private static final int END = 5;
        private static final int PART = 6;
        private static final int BLOCK = 7;
        private static final int SUPER = 8;
        private static final int RAW = 9;
        private static final int PLACE = 10;

        /** What a PATH can begin with beside the NAMES: ".", "0", "1" and "2". */
        private static final int ITEM = 6;
        private static final int ROUND = 7;
        private static final int FIRST = 8;
        private static final int LAST = 9;

        /** One of the kinds above; 0 for what stands where there is no piece. */
        private int kind;
        /** Where the signs of a TEXT begin, and where they have ended. */
        private int from;
        private int to;
        private int first;
        private int second;
        private int third;
        private int letter;
        private int filtersFrom;
        private int filtersTo;
        /** The pieces that are the ELSE and the end of a SECTION or BLOCK (of any other piece itself). */
        private int elseAt;
        private int end;
        private boolean eatsAhead;
        private boolean eatsBehind;

        private void begin(int newKind, int at, int index) {
            kind = newKind;
            from = at;
            to = at;
            first = NONE;
            second = NONE;
            third = NONE;
            letter = NONE;
            filtersFrom = at;
            filtersTo = at;
            elseAt = NONE;
            end = index;
            eatsAhead = false;
            eatsBehind = false;
        }

        private boolean hasFilters() {
            return kind == PLACE || kind == RAW;
        }

        private boolean hasPath() {
            return kind == PLACE || kind == RAW || kind == SECTION;
        }
    }

    /** A FORM: the signs that were typed, and the TEXTS and TAGS in them. */
    private static final class Form {

        /** Two FORMS may be joined; two pieces take at least 4 of their 120 signs (a sign, and a TAG). */
        private static final int ROOM = 2 * TYPED_ROOM;
        private static final int PIECE_ROOM = 64;

        private final Signs signs;
        private final Piece[] pieces;
        private final Piece none;
        private int count;
        private int eaten;
        private int blockLetters;

        private Form() {
            signs = new Signs(ROOM);
            pieces = new Piece[PIECE_ROOM];
            for (int k = 0; k < pieces.length; k++) {
                pieces[k] = new Piece();
            }
            none = new Piece();
        }

        private void begin(Signs typed) {
            signs.copy(typed);
            count = 0;
            eaten = 0;
            blockLetters = 0;
        }

        private Piece at(int index) {
            return index >= 0 && index < count && index < pieces.length ? pieces[index] : none;
        }

        /** The next piece; null, if there is no room for one. */
        private Piece add(int kind, int at) {
            if (count < 0 || count >= pieces.length) {
                return null;
            }
            Piece piece = pieces[count];
            piece.begin(kind, at, count);
            count++;
            return piece;
        }

        private int countOf(int kind) {
            int found = 0;
            for (int k = 0; k < count; k++) {
                if (at(k).kind == kind) {
                    found++;
                }
            }
            return found;
        }

        private void eat() {
            for (int k = 0; k < count; k++) {
                Piece piece = at(k);
                if (piece.kind == Piece.TEXT) {
                    int before = piece.to - piece.from;
                    eatOf(piece, at(k - 1).eatsBehind, at(k + 1).eatsAhead);
                    eaten += before - (piece.to - piece.from);
                }
            }
        }

        private void eatOf(Piece text, boolean isAtBeginning, boolean isAtEnd) {
            while (isAtBeginning && text.from < text.to && isEatable(signs.at(text.from))) {
                text.from++;
            }
            while (isAtEnd && text.from < text.to && isEatable(signs.at(text.to - 1))) {
                text.to--;
            }
        }

        private static boolean isEatable(char sign) {
            return sign == ' ' || sign == '~';
        }

        private boolean hasEater() {
            for (int k = 0; k < count; k++) {
                if (at(k).eatsAhead || at(k).eatsBehind) {
                    return true;
                }
            }
            return false;
        }

        private boolean isWithoutTags() {
            return count == countOf(Piece.TEXT);
        }

        /** The letter of the PART that is all of this FORM, otherwise NONE. */
        private int partAlone() {
            return count == 1 && at(0).kind == Piece.PART ? at(0).letter : NONE;
        }

        private int namesOfPaths() {
            int names = 0;
            for (int k = 0; k < count; k++) {
                Piece piece = at(k);
                if (piece.hasPath() && piece.first >= 0 && piece.first < NAME_COUNT) {
                    names |= 1 << piece.first;
                }
            }
            return names;
        }

        private int lettersOfParts() {
            int letters = 0;
            for (int k = 0; k < count; k++) {
                if (at(k).kind == Piece.PART) {
                    letters |= 1 << at(k).letter;
                }
            }
            return letters;
        }

        private int blockAt(int letter) {
            for (int k = 0; k < count; k++) {
                if (at(k).kind == Piece.BLOCK && at(k).letter == letter) {
                    return k;
                }
            }
            return NONE;
        }
    }

    /**
     * Reads a FORM sign by sign. Each step refuses a sign with which no FORM text can go on, so that
     * the FAULT is where the first one was refused.
     */
    private static final class Reader {

        private static final int OPEN_ROOM = 4;

        private static final int IN_TEXT = 0;
        private static final int TAG_BEGUN = 1;
        private static final int EATER_BEGUN = 2;
        private static final int IN_COMMENT = 3;
        private static final int PATH_DUE = 4;
        private static final int BEHIND_NAME = 5;
        private static final int NAME_DUE = 6;
        private static final int FILTER_DUE = 7;
        private static final int BEHIND_FILTER = 8;
        private static final int ARGUMENT_DUE = 9;
        private static final int IN_ARGUMENT = 10;
        private static final int LETTER_DUE = 11;
        private static final int END_DUE = 12;
        private static final int BRACE_DUE = 13;

        /** The SECTIONS and BLOCKS that are open, the one that began last at the end. */
        private final Piece[] open;
        private final Piece none;
        private Form form;
        private Piece piece;
        private int state;
        private int at;
        private int openCount;
        private int filterCount;

        private Reader(Form first) {
            none = new Piece();
            open = new Piece[OPEN_ROOM];
            for (int k = 0; k < open.length; k++) {
                open[k] = none;
            }
            form = first;
            piece = none;
        }

        /** Answers the FAULT; the FORM is of use only if there is none. */
        private int read(Signs typed, Form into) {
            form = into;
            form.begin(typed);
            piece = none;
            state = IN_TEXT;
            openCount = 0;
            for (int k = 0; k < typed.length; k++) {
                at = k;
                if (!step(typed.at(k))) {
                    return k;
                }
            }
            if (state != IN_TEXT || openCount > 0) {
                return typed.length;
            }
            form.eat();
            return NONE;
        }

        private boolean step(char sign) {
            switch (state) {
                case IN_TEXT:
                    return goOnInText(sign);
                case TAG_BEGUN:
                    return sign == '-' ? beginEater() : beginKind(sign);
                case EATER_BEGUN:
                    return beginKind(sign);
                case IN_COMMENT:
                    return goOnInComment(sign);
                case PATH_DUE:
                    return beginPath(sign);
                case BEHIND_NAME:
                    return sign == '.' ? goToNextName() : goToEnd(sign);
                case NAME_DUE:
                    return addName(sign);
                case FILTER_DUE:
                    return addFilter(sign);
                case BEHIND_FILTER:
                    return sign == ':' ? beginArgument() : goToEnd(sign);
                case ARGUMENT_DUE:
                    return isOfArgument(sign) && addToArgument();
                case IN_ARGUMENT:
                    return isOfArgument(sign) ? addToArgument() : goToEnd(sign);
                case LETTER_DUE:
                    return addLetter(sign);
                case END_DUE:
                    return goToEnd(sign);
                default:
                    return sign == '}' && endTag();
            }
        }

        private boolean goOnInText(char sign) {
            if (sign == '}') {
                return false;
            }
            if (sign == '{' || piece.kind != Piece.TEXT) {
                Piece next = form.add(sign == '{' ? Piece.PLACE : Piece.TEXT, at);
                if (next == null) {
                    return false;
                }
                piece = next;
            }
            piece.to = at + 1;
            state = sign == '{' ? TAG_BEGUN : IN_TEXT;
            return true;
        }

        private boolean beginEater() {
            piece.eatsAhead = true;
            state = EATER_BEGUN;
            return true;
        }

        private boolean beginKind(char sign) {
            switch (sign) {
                case '!':
                    return begin(Piece.COMMENT, IN_COMMENT);
                case '#':
                    return openCount < OPEN_ROOM && begin(Piece.SECTION, PATH_DUE);
                case '^':
                    return mayElse() && begin(Piece.ELSE, END_DUE);
                case '/':
                    return openCount > 0 && begin(Piece.END, END_DUE);
                case '>':
                    return begin(Piece.PART, LETTER_DUE);
                case '$':
                    return openCount < OPEN_ROOM && form.blockLetters != ALL_NAMES && begin(Piece.BLOCK, LETTER_DUE);
                case '*':
                    return begin(Piece.SUPER, END_DUE);
                case '=':
                    return begin(Piece.RAW, PATH_DUE);
                default:
                    return beginPath(sign);
            }
        }

        private boolean begin(int kind, int next) {
            piece.kind = kind;
            state = next;
            return true;
        }

        private Piece innermost() {
            int top = openCount - 1;
            return top >= 0 && top < open.length ? open[top] : none;
        }

        private boolean mayElse() {
            Piece last = innermost();
            return last.kind == Piece.SECTION && last.elseAt == NONE;
        }

        private boolean goOnInComment(char sign) {
            if (sign == '}') {
                return endTag();
            }
            piece.eatsBehind = sign == '-';
            return sign != '{';
        }

        private boolean beginPath(char sign) {
            filterCount = 0;
            if (sign >= 'a' && sign <= 'f') {
                piece.first = sign - 'a';
                state = BEHIND_NAME;
                return true;
            }
            piece.first = sign == '.' ? Piece.ITEM : Piece.ROUND + sign - '0';
            state = END_DUE;
            return sign == '.' || sign >= '0' && sign <= '2';
        }

        private boolean goToNextName() {
            state = NAME_DUE;
            return piece.third == NONE;
        }

        private boolean addName(char sign) {
            if (sign < 'a' || sign > 'f') {
                return false;
            }
            if (piece.second == NONE) {
                piece.second = sign - 'a';
            } else {
                piece.third = sign - 'a';
            }
            state = BEHIND_NAME;
            return true;
        }

        private boolean addFilter(char sign) {
            piece.filtersTo = at + 1;
            state = BEHIND_FILTER;
            return sign >= '0' && sign <= '9';
        }

        private boolean beginArgument() {
            state = ARGUMENT_DUE;
            return true;
        }

        private static boolean isOfArgument(char sign) {
            return sign == ' ' || sign >= 'a' && sign <= 'f' || sign >= '0' && sign <= '9';
        }

        private boolean addToArgument() {
            piece.filtersTo = at + 1;
            state = IN_ARGUMENT;
            return true;
        }

        private boolean addLetter(char sign) {
            if (sign < 'a' || sign > 'f') {
                return false;
            }
            piece.letter = sign - 'a';
            state = END_DUE;
            if (piece.kind != Piece.BLOCK) {
                return true;
            }
            int before = form.blockLetters;
            form.blockLetters |= 1 << piece.letter;
            return form.blockLetters != before;
        }

        /** What may stand behind all that a TAG needs: one more FILTER, "-" or "}". */
        private boolean goToEnd(char sign) {
            if (sign == '|') {
                return beginFilter();
            }
            if (sign == '-') {
                piece.eatsBehind = true;
                state = BRACE_DUE;
                return true;
            }
            return sign == '}' && endTag();
        }

        private boolean beginFilter() {
            if (filterCount == 0) {
                piece.filtersFrom = at;
            }
            filterCount++;
            state = FILTER_DUE;
            return piece.hasFilters() && filterCount <= FILTERS_IN_A_ROW;
        }

        private boolean endTag() {
            int index = form.count - 1;
            state = IN_TEXT;
            if (piece.kind == Piece.ELSE) {
                innermost().elseAt = index;
            } else if (piece.kind == Piece.END) {
                innermost().end = index;
                openCount--;
            } else if (piece.kind == Piece.SECTION || piece.kind == Piece.BLOCK) {
                if (openCount < 0 || openCount >= open.length) {
                    return false;
                }
                open[openCount] = piece;
                openCount++;
            }
            return true;
        }
    }

    /** The FORMS with their PARENTS, and room for two more that are only tried. */
    private static final class Shelf {

        private static final int TYPED = 6;
        private static final int JOINED = 7;
        private static final int ROOM = 8;

        private final Form[] forms;
        private final int[] parents;
        private final Form none;
        private int there;

        private Shelf() {
            forms = new Form[ROOM];
            parents = new int[ROOM];
            for (int k = 0; k < ROOM; k++) {
                forms[k] = new Form();
                parents[k] = NONE;
            }
            none = new Form();
        }

        private Form at(int form) {
            return form >= 0 && form < forms.length ? forms[form] : none;
        }

        private boolean isThere(int form) {
            return form >= 0 && form < FORM_COUNT && (there >> form & 1) == 1;
        }

        /** The FORM that was read as TYPED changes places with the one that was there. */
        private void putTyped(int form) {
            if (form < 0 || form >= FORM_COUNT) {
                return;
            }
            Form before = forms[form];
            forms[form] = forms[TYPED];
            forms[TYPED] = before;
            there |= 1 << form;
        }

        private int parentOf(int form) {
            return form >= 0 && form < parents.length ? parents[form] : NONE;
        }

        private int setParent(int form, int parent) {
            int before = parentOf(form);
            if (form >= 0 && form < parents.length) {
                parents[form] = parent;
            }
            return before;
        }

        private boolean isInChain(int form, int of) {
            int link = of;
            for (int k = 0; k < ROOM && link != NONE; k++) {
                if (link == form) {
                    return true;
                }
                link = parentOf(link);
            }
            return false;
        }

        private int chainLength(int form) {
            int length = 0;
            int link = form;
            for (int k = 0; k < ROOM && link != NONE; k++) {
                length++;
                link = parentOf(link);
            }
            return length;
        }

        private int lastOfChain(int form) {
            int last = form;
            for (int k = 0; k < ROOM && parentOf(last) != NONE; k++) {
                last = parentOf(last);
            }
            return last;
        }

        /** The first one of the CHAIN that begins with a FORM that has the BLOCK; NONE without one. */
        private int withBlock(int form, int letter) {
            int link = form;
            for (int k = 0; k < ROOM && link != NONE; k++) {
                if (at(link).blockAt(letter) != NONE) {
                    return link;
                }
                link = parentOf(link);
            }
            return NONE;
        }

        private int namesAsked(int form) {
            int reached = 1 << form;
            for (int round = 0; round < FORM_COUNT; round++) {
                for (int k = 0; k < FORM_COUNT; k++) {
                    reached |= (reached >> k & 1) == 1 ? reachedFrom(k) : 0;
                }
            }
            int names = 0;
            for (int k = 0; k < FORM_COUNT; k++) {
                names |= (reached >> k & 1) == 1 ? at(k).namesOfPaths() : 0;
            }
            return names;
        }

        private int reachedFrom(int form) {
            int parent = parentOf(form);
            int reached = at(form).lettersOfParts() & there;
            return parent == NONE ? reached : reached | 1 << parent;
        }
    }

    /** A SCOPE: its MAP (null for an empty one), and of a ROUND its ITEM. */
    private static final class Scope {

        private Value map;
        private Value item;
        private int round;
        private boolean isLast;
    }

    /** The VALUE of a place while its FILTERS change it. */
    private static final class Work {

        /** More than the WORDS of 8 TEXTS with 7 ARGUMENTS between them. */
        private static final int ROOM = 1400;

        private final Signs text;
        private final Signs argument;
        private final Value[] row;
        private int count;
        private int kind;
        private char filter;

        private Work() {
            text = new Signs(ROOM);
            argument = new Signs(Form.ROOM);
            row = new Value[ROW_ROOM];
        }

        private void begin(Value value) {
            kind = value == null ? Value.MISSING : value.kind;
            count = 0;
            text.clear();
            if (value == null) {
                return;
            }
            text.putSigns(value.signs, value.signs.length);
            count = value.count;
            for (int k = 0; kind == Value.ROW && k < count && k < row.length; k++) {
                row[k] = value.at(k);
            }
        }

        /** Applies the FILTERS that stand in typed signs from one place on and up to another one. */
        private void change(Signs typed, int from, int to) {
            int at = from;
            for (int k = 0; k < FILTERS_IN_A_ROW && at < to; k++) {
                at = readFilter(typed, at, to);
                if (kind == Value.MISSING && filter != '2' && filter != '3') {
                    continue;
                }
                switch (filter) {
                    case '0':
                        flatten();
                        text.trim();
                        break;
                    case '1':
                        flatten();
                        text.raise();
                        break;
                    case '2':
                        int size = kind == Value.ROW || kind == Value.MAP ? count : text.length;
                        text.clear();
                        text.putNumber(size);
                        kind = Value.TEXT;
                        break;
                    case '3':
                        becomeDefault();
                        break;
                    case '4':
                    case '5':
                        boolean isFirst = filter == '4';
                        if (kind == Value.ROW) {
                            begin(partAt(isFirst ? 0 : count - 1));
                        } else {
                            becomeSign(isFirst ? 0 : text.length - 1);
                        }
                        break;
                    case '6':
                        flatten();
                        text.cut(digitOfArgument());
                        break;
                    case '7':
                        if (kind == Value.ROW) {
                            turnRow();
                        } else {
                            flatten();
                            text.turn();
                        }
                        break;
                    case '8':
                        join();
                        break;
                    default:
                        sortRow();
                        break;
                }
            }
        }

        /** Answers where the next FILTER stands. */
        private int readFilter(Signs typed, int from, int to) {
            filter = typed.at(from + 1);
            argument.clear();
            int at = from + 2;
            if (at < to && typed.at(at) == ':') {
                at++;
                while (at < to && typed.at(at) != '|') {
                    argument.put(typed.at(at));
                    at++;
                }
            }
            return at;
        }

        /** What is changed becomes its WORDS. */
        private void flatten() {
            if (kind == Value.ROW) {
                text.clear();
                for (int k = 0; k < count && k < row.length; k++) {
                    Value part = row[k];
                    if (part != null) {
                        text.putSigns(part.signs, part.signs.length);
                    }
                }
            }
            kind = Value.TEXT;
        }

        private void becomeDefault() {
            if (!hasWords()) {
                text.clear();
                text.putSigns(argument.all, argument.length);
                kind = Value.TEXT;
            }
        }

        private boolean hasWords() {
            boolean has = text.length > 0;
            for (int k = 0; kind == Value.ROW && k < count && k < row.length; k++) {
                Value part = row[k];
                has |= part != null && part.signs.length > 0;
            }
            return has;
        }

        private Value partAt(int index) {
            return index >= 0 && index < count && index < row.length ? row[index] : null;
        }

        private void becomeSign(int index) {
            text.narrow(index, index + 1);
            kind = Value.TEXT;
        }

        private int digitOfArgument() {
            char sign = argument.at(0);
            return sign >= '0' && sign <= '9' ? sign - '0' : 0;
        }

        private void turnRow() {
            int to = Math.min(count, row.length) - 1;
            for (int from = 0; from < to; from++) {
                Value value = row[from];
                row[from] = row[to];
                row[to] = value;
                to--;
            }
        }

        private void join() {
            boolean isRow = kind == Value.ROW;
            kind = Value.TEXT;
            for (int k = 0; isRow && k < count && k < row.length; k++) {
                Value part = row[k];
                if (k > 0) {
                    text.putSigns(argument.all, argument.length);
                }
                if (part != null) {
                    text.putSigns(part.signs, part.signs.length);
                }
            }
        }

        private void sortRow() {
            for (int k = 1; kind == Value.ROW && k < count && k < row.length; k++) {
                Value value = row[k];
                int to = k;
                while (to > 0 && isAhead(value, row[to - 1])) {
                    row[to] = row[to - 1];
                    to--;
                }
                row[to] = value;
            }
        }

        private static boolean isAhead(Value one, Value two) {
            if (one == null || two == null) {
                return false;
            }
            for (int k = 0; k < one.signs.length && k < two.signs.length; k++) {
                if (one.signs[k] != two.signs[k]) {
                    return one.signs[k] < two.signs[k];
                }
            }
            return one.signs.length < two.signs.length;
        }
    }

    /** Fills a FORM, and counts what happens. */
    private static final class Filler {

        private static final int NO_VALUE = 1;
        private static final int TOO_DEEP = 2;
        private static final int TOO_MUCH = 3;
        private static final int OPEN_ROOM = 10;
        private static final int ROUND_ROOM = 60;
        private static final int PART_ROOM = 60;

        private final Shelf shelf;
        private final Data data;
        private final Work work;
        private final Signs out;
        private final Scope[] scopes;
        private final Value[] numbers;
        private final Value yes;
        private final Value no;
        private int scopeCount;
        private int names;
        private boolean isStrict;
        private int failure;
        private int looked;
        private int missing;
        private int rounds;
        private int parts;
        private int blocks;
        private int most;

        private Filler(Shelf shelf, Data data) {
            this.shelf = shelf;
            this.data = data;
            work = new Work();
            out = new Signs(LETTER_ROOM);
            scopes = new Scope[OPEN_ROOM];
            for (int k = 0; k < scopes.length; k++) {
                scopes[k] = new Scope();
            }
            numbers = new Value[ROW_ROOM];
            for (int k = 0; k < numbers.length; k++) {
                numbers[k] = Value.ofNumber(k);
            }
            yes = Value.ofTruth(true);
            no = Value.ofTruth(false);
        }

        /** Fills as if DATA had no other NAMES than these; answers the FAILURE. */
        private int run(int form, int ofNames, boolean strictly) {
            names = ofNames;
            isStrict = strictly;
            scopeCount = 0;
            out.clear();
            failure = 0;
            looked = 0;
            missing = 0;
            rounds = 0;
            parts = 0;
            blocks = 0;
            most = 0;
            fillForm(form, 0);
            return failure;
        }

        private int told(int what) {
            switch (what) {
                case 0:
                    return failure;
                case 1:
                    return looked;
                case 2:
                    return missing;
                case 3:
                    return rounds;
                case 4:
                    return parts;
                case 5:
                    return blocks;
                case 6:
                    return most;
                default:
                    return failure == 0 ? out.length : NONE;
            }
        }

        private void fail(int why) {
            if (failure == 0) {
                failure = why;
            }
        }

        private void fillForm(int form, int open) {
            int last = shelf.lastOfChain(form);
            fillPieces(form, last, 0, shelf.at(last).count, NONE, open);
        }

        /**
         * Fills some pieces of the FORM "at", which is in the CHAIN of the FORM "top"; they stand in
         * the BLOCK of the letter (or in none), and so many SECTIONS and so on are open around them.
         */
        private void fillPieces(int top, int at, int from, int to, int letter, int open) {
            Form form = shelf.at(at);
            for (int k = from; k < to && failure == 0; k++) {
                Piece piece = form.at(k);
                switch (piece.kind) {
                    case Piece.TEXT:
                        putText(form.signs, piece.from, piece.to);
                        break;
                    case Piece.PLACE:
                    case Piece.RAW:
                        work.begin(valueOf(piece));
                        work.change(form.signs, piece.filtersFrom, piece.filtersTo);
                        putWork(piece.kind == Piece.RAW);
                        break;
                    case Piece.SECTION:
                        fillSection(top, at, k, letter, open);
                        break;
                    case Piece.PART:
                        fillPart(piece.letter, open);
                        break;
                    case Piece.BLOCK:
                        fillBlock(top, top, piece.letter, open);
                        break;
                    case Piece.SUPER:
                        fillBlock(top, letter == NONE ? NONE : shelf.parentOf(at), letter, open);
                        break;
                    default:
                        break;
                }
                k = Math.max(k, piece.end);
            }
        }

        private void putText(Signs signs, int from, int to) {
            for (int k = from; k < to; k++) {
                if (!out.put(signs.at(k))) {
                    fail(TOO_MUCH);
                    return;
                }
            }
        }

        private void putWork(boolean isRaw) {
            if (work.kind == Value.MISSING) {
                if (isStrict) {
                    fail(NO_VALUE);
                }
                return;
            }
            work.flatten();
            for (int k = 0; k < work.text.length && failure == 0; k++) {
                char sign = work.text.at(k);
                char code = isRaw ? (char) 0 : Signs.codeOf(sign);
                boolean fits = code == 0 ? out.put(sign) : out.put('<') && out.put(code);
                if (!fits) {
                    fail(TOO_MUCH);
                }
            }
        }

        private Value valueOf(Piece piece) {
            Value found = piece.first < NAME_COUNT ? valueNamed(piece.first) : valueOfItem(piece.first);
            if (found != null && piece.second != NONE) {
                found = found.named(piece.second);
            }
            if (found != null && piece.third != NONE) {
                found = found.named(piece.third);
            }
            looked++;
            if (found == null) {
                missing++;
            }
            return found;
        }

        private Value valueNamed(int name) {
            for (int k = Math.min(scopeCount, scopes.length) - 1; k >= 0; k--) {
                Value map = scopes[k].map;
                Value found = map == null ? null : map.named(name);
                if (found != null) {
                    return found;
                }
            }
            return (names >> name & 1) == 1 ? data.root.named(name) : null;
        }

        private Value valueOfItem(int what) {
            for (int k = Math.min(scopeCount, scopes.length) - 1; k >= 0; k--) {
                Scope scope = scopes[k];
                if (scope.item != null) {
                    return valueInRound(scope, what);
                }
            }
            return null;
        }

        private Value valueInRound(Scope scope, int what) {
            switch (what) {
                case Piece.ROUND:
                    return scope.round >= 0 && scope.round < numbers.length ? numbers[scope.round] : null;
                case Piece.FIRST:
                    return scope.round == 0 ? yes : no;
                case Piece.LAST:
                    return scope.isLast ? yes : no;
                default:
                    return scope.item;
            }
        }

        private void fillSection(int top, int at, int index, int letter, int open) {
            Piece section = shelf.at(at).at(index);
            Value value = valueOf(section);
            boolean isShown = value != null && value.isShown();
            if (isShown && value.kind == Value.ROW) {
                fillRounds(top, at, index, value, letter, open);
                return;
            }
            if (!isShown && section.elseAt == NONE || !isOpened(open)) {
                return;
            }
            int before = scopeCount;
            if (isShown && value.kind == Value.MAP) {
                pushScope(value, null, 0, false);
            }
            int from = isShown ? index : section.elseAt;
            int to = isShown && section.elseAt != NONE ? section.elseAt : section.end;
            fillPieces(top, at, from + 1, to, letter, open + 1);
            scopeCount = before;
        }

        private void fillRounds(int top, int at, int index, Value row, int letter, int open) {
            Piece section = shelf.at(at).at(index);
            int to = section.elseAt == NONE ? section.end : section.elseAt;
            for (int k = 0; k < row.count && failure == 0; k++) {
                if (rounds >= ROUND_ROOM) {
                    fail(TOO_MUCH);
                    return;
                }
                if (k == 0 && !isOpened(open)) {
                    return;
                }
                rounds++;
                Value item = row.at(k);
                pushScope(item, item, k, k == row.count - 1);
                fillPieces(top, at, index + 1, to, letter, open + 1);
                scopeCount--;
            }
        }

        private void fillPart(int form, int open) {
            if (!shelf.isThere(form)) {
                if (isStrict) {
                    fail(NO_VALUE);
                }
                return;
            }
            if (hasRoomForPart() && isOpened(open)) {
                parts++;
                fillForm(form, open + 1);
            }
        }

        /** Fills the BLOCK of a letter of the first FORM that has one, from one of a CHAIN on. */
        private void fillBlock(int top, int from, int letter, int open) {
            int at = shelf.withBlock(from, letter);
            if (at != NONE && hasRoomForPart() && isOpened(open)) {
                blocks++;
                int index = shelf.at(at).blockAt(letter);
                fillPieces(top, at, index + 1, shelf.at(at).at(index).end, letter, open + 1);
            }
        }

        private boolean hasRoomForPart() {
            if (parts + blocks >= PART_ROOM) {
                fail(TOO_MUCH);
                return false;
            }
            return true;
        }

        private boolean isOpened(int open) {
            if (open >= OPEN_ROOM) {
                fail(TOO_DEEP);
                return false;
            }
            most = Math.max(most, open + 1);
            return true;
        }

        private void pushScope(Value map, Value item, int round, boolean isLast) {
            if (scopeCount < 0 || scopeCount >= scopes.length) {
                return;
            }
            Scope scope = scopes[scopeCount];
            scope.map = map;
            scope.item = item;
            scope.round = round;
            scope.isLast = isLast;
            scopeCount++;
        }
    }

    /** COMMON of two LETTERS, and BACK of them. */
    private static final class Match {

        private static final int WIDTH = LETTER_ROOM + 1;

        /** How long the longest row is that is in both, of what is left from two places on. */
        private final int[] longest;
        private final Signs shared;
        private final Signs shape;
        private int gaps;
        private int past;

        private Match() {
            longest = new int[WIDTH * WIDTH];
            shared = new Signs(LETTER_ROOM);
            shape = new Signs(3 * LETTER_ROOM + 2);
        }

        private void compare(Signs one, Signs two) {
            measure(one, two);
            shared.clear();
            shape.clear();
            gaps = 0;
            past = 0;
            int i = 0;
            int j = 0;
            boolean isInGap = false;
            for (int steps = 0; steps < 2 * WIDTH && (i < one.length || j < two.length); steps++) {
                if (i < one.length && j < two.length && one.at(i) == two.at(j)) {
                    shared.put(one.at(i));
                    shape.put(one.at(i));
                    isInGap = false;
                    i++;
                    j++;
                    continue;
                }
                if (!isInGap) {
                    beginGap();
                }
                isInGap = true;
                past++;
                if (j >= two.length || i < one.length && longestFrom(i + 1, j) == longestFrom(i, j)) {
                    i++;
                } else {
                    j++;
                }
            }
        }

        private void beginGap() {
            gaps++;
            shape.put('{');
            shape.put('}');
        }

        private void measure(Signs one, Signs two) {
            for (int i = Math.min(one.length, LETTER_ROOM); i >= 0; i--) {
                for (int j = Math.min(two.length, LETTER_ROOM); j >= 0; j--) {
                    int length = 0;
                    if (i < one.length && j < two.length) {
                        length = one.at(i) == two.at(j)
                                ? longestFrom(i + 1, j + 1) + 1
                                : Math.max(longestFrom(i + 1, j), longestFrom(i, j + 1));
                    }
                    int index = i * WIDTH + j;
                    if (index < longest.length) {
                        longest[index] = length;
                    }
                }
            }
        }

        private int longestFrom(int i, int j) {
            int index = i * WIDTH + j;
            return index >= 0 && index < longest.length ? longest[index] : 0;
        }

        private int told(int what) {
            return what == 0 ? shared.length : what == 1 ? gaps : past;
        }
    }
}
