import java.util.ArrayList;
import java.util.HashMap;
import java.util.HashSet;
import java.util.LinkedList;
import java.util.List;
import java.util.Map;
import java.util.Set;
import java.util.TreeMap;
import java.util.regex.Matcher;
import java.util.regex.Pattern;

/**
 * The document once more, told with all that the Java library has and without any care for speed or
 * room. RandomTest asks it and the program the same things. A TEXT is a String, a NUMBER an Integer,
 * a TRUTH a Boolean, a ROW a List and a MAP a TreeMap here; what is MISSING is null.
 */
public final class Oracle {

    private static final String KEYS = "abcdef ~{}#^/.|:>!-=$*<0123456789";
    private static final String PATH = "(?:[a-f](?:\\.[a-f]){0,2}|[.012])";
    private static final String FILTER = "\\|[0-9](?::[a-f0-9 ]+)?";
    private static final Pattern TOKEN = Pattern.compile("[^{}]+"
            + "|\\{-?(?:![^{}]*|#" + PATH + "-?|[\\^/*]-?|[>$][a-f]-?|=?" + PATH + "(?:" + FILTER + "){0,4}-?)\\}");

    private String typed = "";
    private final TreeMap<Integer, Object> data = new TreeMap<>();
    private final String[] forms = new String[6];
    private final int[] parents = {-1, -1, -1, -1, -1, -1};
    private final List<String> letters = new ArrayList<>();
    private boolean isStrict;
    private int blanks;
    private int knocks;

    // ---- forms as trees

    private static final class Node {
        String kind;
        String text;
        String path;
        String filters;
        char letter;
        boolean eatsAhead;
        boolean eatsBehind;
        List<Node> inside = new ArrayList<>();
        List<Node> otherwise;
    }

    private static final class Tree {
        final List<Node> tokens = new ArrayList<>();
        final List<Node> nodes = new ArrayList<>();
        final Map<Character, Node> blocks = new TreeMap<>();
        int eaten;
        int signs;
    }

    private static final class Bad extends Exception {
        private static final long serialVersionUID = 1;
    }

    private static Node node(String token) {
        Node node = new Node();
        if (!token.startsWith("{")) {
            node.kind = "text";
            node.text = token;
            return node;
        }
        String body = token.substring(1, token.length() - 1);
        if (body.startsWith("-")) {
            node.eatsAhead = true;
            body = body.substring(1);
        }
        if (body.endsWith("-")) {
            node.eatsBehind = true;
            body = body.substring(0, body.length() - 1);
        }
        char first = body.charAt(0);
        String rest = body.substring(1);
        switch (first) {
            case '!': node.kind = "comment"; break;
            case '#': node.kind = "section"; node.path = rest; break;
            case '^': node.kind = "else"; break;
            case '/': node.kind = "end"; break;
            case '>': node.kind = "part"; node.letter = rest.charAt(0); break;
            case '$': node.kind = "block"; node.letter = rest.charAt(0); break;
            case '*': node.kind = "super"; break;
            default:
                node.kind = first == '=' ? "raw" : "place";
                String all = first == '=' ? rest : body;
                int bar = all.indexOf('|');
                node.path = bar < 0 ? all : all.substring(0, bar);
                node.filters = bar < 0 ? "" : all.substring(bar);
                break;
        }
        return node;
    }

    private static Tree tree(String form) throws Bad {
        Tree tree = new Tree();
        tree.signs = form.length();
        Matcher matcher = TOKEN.matcher(form);
        int at = 0;
        while (at < form.length()) {
            if (!matcher.find(at) || matcher.start() != at) {
                throw new Bad();
            }
            tree.tokens.add(node(matcher.group()));
            at = matcher.end();
        }
        LinkedList<Node> open = new LinkedList<>();
        for (Node token : tree.tokens) {
            if (token.kind.equals("else")) {
                if (open.isEmpty() || !open.getLast().kind.equals("section") || open.getLast().otherwise != null) {
                    throw new Bad();
                }
                open.getLast().otherwise = new ArrayList<>();
                continue;
            }
            if (token.kind.equals("end")) {
                if (open.isEmpty()) {
                    throw new Bad();
                }
                open.removeLast();
                continue;
            }
            Node around = open.isEmpty() ? null : open.getLast();
            List<Node> to = around == null ? tree.nodes : around.otherwise != null ? around.otherwise : around.inside;
            to.add(token);
            if (token.kind.equals("block") && tree.blocks.put(token.letter, token) != null) {
                throw new Bad();
            }
            if (token.kind.equals("section") || token.kind.equals("block")) {
                open.add(token);
                if (open.size() > 4) {
                    throw new Bad();
                }
            }
        }
        if (!open.isEmpty()) {
            throw new Bad();
        }
        for (int k = 0; k < tree.tokens.size(); k++) {
            Node token = tree.tokens.get(k);
            if (!token.kind.equals("text")) {
                continue;
            }
            String text = token.text;
            if (k > 0 && tree.tokens.get(k - 1).eatsBehind) {
                text = text.replaceAll("^[ ~]+", "");
            }
            if (k + 1 < tree.tokens.size() && tree.tokens.get(k + 1).eatsAhead) {
                text = text.replaceAll("[ ~]+$", "");
            }
            tree.eaten += token.text.length() - text.length();
            token.text = text;
        }
        return tree;
    }

    private static boolean isForm(String text) {
        try {
            tree(text);
            return true;
        } catch (Bad e) {
            return false;
        }
    }

    private static boolean canGoOn(String text) {
        String[] ends = {"", "}", "a}", "b}", "c}", "d}", "e}", "f}", "0}"};
        for (String end : ends) {
            String whole = text + end;
            for (int open = 0; open <= 4; open++) {
                if (isForm(whole)) {
                    return true;
                }
                whole += "{/}";
            }
        }
        return false;
    }

    private static int faultOf(String text) {
        if (isForm(text)) {
            return -1;
        }
        int longest = 0;
        for (int k = 1; k <= text.length(); k++) {
            if (canGoOn(text.substring(0, k))) {
                longest = k;
            }
        }
        return longest;
    }

    private Tree treeOf(int form) {
        try {
            return tree(forms[form]);
        } catch (Bad e) {
            throw new AssertionError("a form that is there has a fault");
        }
    }

    // ---- values

    private static String wordsOf(Object value) {
        if (value instanceof Boolean) {
            return (Boolean) value ? "yes" : "no";
        }
        if (value instanceof List) {
            StringBuilder all = new StringBuilder();
            for (Object part : (List<?>) value) {
                all.append(wordsOf(part));
            }
            return all.toString();
        }
        return value instanceof Map ? "" : String.valueOf(value);
    }

    private static int sizeOf(Object value) {
        if (value == null) {
            return 0;
        }
        if (value instanceof List) {
            return ((List<?>) value).size();
        }
        return value instanceof Map ? ((Map<?, ?>) value).size() : wordsOf(value).length();
    }

    private static boolean isShown(Object value) {
        if (value instanceof Integer) {
            return (Integer) value != 0;
        }
        if (value instanceof Boolean) {
            return (Boolean) value;
        }
        return sizeOf(value) > 0;
    }

    private static String escaped(String text) {
        return text.replace("<", "<0").replace("{", "<1").replace("}", "<2");
    }

    private static String unescaped(String text) {
        Matcher matcher = Pattern.compile("<([012])").matcher(text);
        StringBuilder out = new StringBuilder();
        while (matcher.find()) {
            matcher.appendReplacement(out, matcher.group(1).equals("0") ? "<" : matcher.group(1).equals("1") ? "{" : "}");
        }
        matcher.appendTail(out);
        return out.toString();
    }

    private static String turned(String text) {
        return new StringBuilder(text).reverse().toString();
    }

    private static Object filtered(Object value, int filter, String argument) {
        if (filter == 2) {
            return sizeOf(value);
        }
        if (filter == 3) {
            return value == null || wordsOf(value).isEmpty() ? argument : value;
        }
        if (value == null) {
            return null;
        }
        String words = wordsOf(value);
        List<?> row = value instanceof List ? (List<?>) value : null;
        switch (filter) {
            case 0:
                return words.replaceAll("^ +| +$", "");
            case 1:
                return words.replace('a', 'A').replace('b', 'B').replace('c', 'C').replace('d', 'D').replace('e', 'E')
                        .replace('f', 'F');
            case 4:
                if (row != null) {
                    return row.isEmpty() ? null : row.get(0);
                }
                return words.isEmpty() ? "" : words.substring(0, 1);
            case 5:
                if (row != null) {
                    return row.isEmpty() ? null : row.get(row.size() - 1);
                }
                return words.isEmpty() ? "" : words.substring(words.length() - 1);
            case 6:
                int many = !argument.isEmpty() && Character.isDigit(argument.charAt(0)) ? argument.charAt(0) - '0' : 0;
                return words.substring(0, Math.min(many, words.length()));
            case 7:
                if (row != null) {
                    List<Object> other = new ArrayList<>();
                    for (Object part : row) {
                        other.add(0, part);
                    }
                    return other;
                }
                return turned(words);
            case 8:
                if (row != null) {
                    List<String> all = new ArrayList<>();
                    for (Object part : row) {
                        all.add(wordsOf(part));
                    }
                    return String.join(argument, all);
                }
                return words;
            default:
                if (row == null) {
                    return value;
                }
                List<Object> sorted = new ArrayList<>(row);
                sorted.sort((one, two) -> wordsOf(one).compareTo(wordsOf(two)));
                return sorted;
        }
    }

    private static Object allFiltered(Object value, String filters) {
        Matcher matcher = Pattern.compile("\\|([0-9])(?::([a-f0-9 ]+))?").matcher(filters);
        Object now = value;
        while (matcher.find()) {
            now = filtered(now, Integer.parseInt(matcher.group(1)), matcher.group(2) == null ? "" : matcher.group(2));
        }
        return now;
    }

    // ---- filling

    private static final class Failure extends RuntimeException {
        private static final long serialVersionUID = 1;
        final int why;

        Failure(int why) {
            super(null, null, false, false);
            this.why = why;
        }
    }

    private static final class Level {
        Map<Integer, Object> map = new TreeMap<>();
        Object item;
        int round;
        boolean isFirst;
        boolean isLast;
    }

    private final class Filling {
        final StringBuilder out = new StringBuilder();
        final LinkedList<Level> levels = new LinkedList<>();
        final boolean isStrict;
        int failure;
        int looked;
        int missing;
        int rounds;
        int parts;
        int blocks;
        int most;

        Filling(List<Tree> chain, Map<Integer, Object> data, boolean isStrict) {
            this.isStrict = isStrict;
            Level outermost = new Level();
            outermost.map = data;
            levels.add(outermost);
            try {
                nodes(chain.get(chain.size() - 1).nodes, chain, chain.size() - 1, ' ', 0);
            } catch (Failure e) {
                failure = e.why;
            }
        }

        int told(int what) {
            int[] all = {failure, looked, missing, rounds, parts, blocks, most, failure == 0 ? out.length() : -1};
            return all[what];
        }

        void put(String text) {
            out.append(text);
            if (out.length() > 200) {
                throw new Failure(3);
            }
        }

        void openOneMore(int open) {
            if (open + 1 > 10) {
                throw new Failure(2);
            }
            most = Math.max(most, open + 1);
        }

        void checkParts() {
            if (parts + blocks + 1 > 60) {
                throw new Failure(3);
            }
        }

        Object valueOf(String path) {
            looked++;
            Object value = lookFor(path);
            if (value == null) {
                missing++;
            }
            return value;
        }

        Object lookFor(String path) {
            char first = path.charAt(0);
            if (first == '.' || Character.isDigit(first)) {
                for (int k = levels.size() - 1; k >= 0; k--) {
                    Level level = levels.get(k);
                    if (level.item != null) {
                        return first == '.' ? level.item : first == '0' ? (Object) level.round
                                : first == '1' ? (Object) level.isFirst : (Object) level.isLast;
                    }
                }
                return null;
            }
            String[] names = path.split("\\.");
            Object value = null;
            for (int k = levels.size() - 1; k >= 0 && value == null; k--) {
                value = levels.get(k).map.get(names[0].charAt(0) - 'a');
            }
            for (int k = 1; k < names.length; k++) {
                value = value instanceof Map ? ((Map<?, ?>) value).get(names[k].charAt(0) - 'a') : null;
            }
            return value;
        }

        void nodes(List<Node> all, List<Tree> chain, int at, char letter, int open) {
            for (Node node : all) {
                switch (node.kind) {
                    case "text":
                        put(node.text);
                        break;
                    case "place":
                    case "raw":
                        Object value = allFiltered(valueOf(node.path), node.filters);
                        if (value == null) {
                            if (isStrict) {
                                throw new Failure(1);
                            }
                            break;
                        }
                        put(node.kind.equals("raw") ? wordsOf(value) : escaped(wordsOf(value)));
                        break;
                    case "section":
                        section(node, chain, at, letter, open);
                        break;
                    case "part":
                        part(node.letter - 'a', open);
                        break;
                    case "block":
                        block(chain, 0, node.letter, open);
                        break;
                    case "super":
                        if (letter != ' ') {
                            block(chain, at + 1, letter, open);
                        }
                        break;
                    default:
                        break;
                }
            }
        }

        @SuppressWarnings("unchecked")
        void section(Node node, List<Tree> chain, int at, char letter, int open) {
            Object value = valueOf(node.path);
            if (value instanceof List && !((List<?>) value).isEmpty()) {
                List<?> row = (List<?>) value;
                for (int k = 0; k < row.size(); k++) {
                    if (rounds + 1 > 60) {
                        throw new Failure(3);
                    }
                    if (k == 0) {
                        openOneMore(open);
                    }
                    rounds++;
                    Level level = new Level();
                    level.item = row.get(k);
                    level.round = k;
                    level.isFirst = k == 0;
                    level.isLast = k == row.size() - 1;
                    if (level.item instanceof Map) {
                        level.map = (Map<Integer, Object>) level.item;
                    }
                    levels.add(level);
                    nodes(node.inside, chain, at, letter, open + 1);
                    levels.removeLast();
                }
                return;
            }
            if (isShown(value)) {
                openOneMore(open);
                Level level = new Level();
                if (value instanceof Map) {
                    level.map = (Map<Integer, Object>) value;
                }
                levels.add(level);
                nodes(node.inside, chain, at, letter, open + 1);
                levels.removeLast();
            } else if (node.otherwise != null) {
                openOneMore(open);
                nodes(node.otherwise, chain, at, letter, open + 1);
            }
        }

        void part(int form, int open) {
            if (forms[form] == null) {
                if (isStrict) {
                    throw new Failure(1);
                }
                return;
            }
            checkParts();
            openOneMore(open);
            parts++;
            List<Tree> chain = chainOf(form);
            nodes(chain.get(chain.size() - 1).nodes, chain, chain.size() - 1, ' ', open + 1);
        }

        void block(List<Tree> chain, int from, char letter, int open) {
            for (int at = from; at < chain.size(); at++) {
                Node block = chain.get(at).blocks.get(letter);
                if (block != null) {
                    checkParts();
                    openOneMore(open);
                    blocks++;
                    nodes(block.inside, chain, at, letter, open + 1);
                    return;
                }
            }
        }
    }

    private List<Tree> chainOf(int form) {
        List<Tree> chain = new ArrayList<>();
        for (int link = form; link != -1; link = parents[link]) {
            chain.add(treeOf(link));
        }
        return chain;
    }

    private Filling filled(int form) {
        return new Filling(chainOf(form), data, isStrict);
    }

    private Filling filledAlone(String text, boolean strictly) {
        try {
            return new Filling(List.of(tree(text)), data, strictly);
        } catch (Bad e) {
            return null;
        }
    }

    // ---- the exceptions

    private static void path(int a, int b, int c) {
        if (a < 0 || a > 5 || b < -1 || b > 5 || c < -1 || c > 5 || c != -1 && b == -1) {
            throw new IllegalArgumentException();
        }
    }

    private static void range(int number, int least, int most) {
        if (number < least || number > most) {
            throw new IllegalArgumentException();
        }
    }

    private static void index(int form) {
        if (form < 0 || form > 5) {
            throw new IndexOutOfBoundsException();
        }
    }

    private void there(int form) {
        if (forms[form] == null) {
            throw new IllegalStateException();
        }
    }

    // ---- paths in data

    @SuppressWarnings("unchecked")
    private Map<Integer, Object> mapOf(int a, int b, int c, boolean makes) {
        List<Integer> ahead = new ArrayList<>();
        if (b != -1) {
            ahead.add(a);
        }
        if (c != -1) {
            ahead.add(b);
        }
        Map<Integer, Object> map = data;
        for (int name : ahead) {
            Object value = map.get(name);
            if (value == null && makes) {
                value = new TreeMap<Integer, Object>();
                map.put(name, value);
            }
            if (value instanceof List && !((List<?>) value).isEmpty()) {
                value = ((List<?>) value).get(((List<?>) value).size() - 1);
            }
            if (!(value instanceof Map)) {
                return null;
            }
            map = (Map<Integer, Object>) value;
        }
        return map;
    }

    private static int last(int a, int b, int c) {
        return c != -1 ? c : b != -1 ? b : a;
    }

    private Object find(int a, int b, int c) {
        Map<Integer, Object> map = mapOf(a, b, c, false);
        return map == null ? null : map.get(last(a, b, c));
    }

    private boolean tell(int a, int b, int c, Object value) {
        Map<Integer, Object> map = mapOf(a, b, c, true);
        if (map != null) {
            map.put(last(a, b, c), value);
        }
        return map != null;
    }

    private static int namesOf(Map<?, ?> map) {
        int names = 0;
        for (Object name : map.keySet()) {
            names += 1 << (Integer) name;
        }
        return names;
    }

    // ---- the face

    public int say(int a, int b, int c, int d, int e, int f) {
        int[] codes = {a, b, c, d, e, f};
        for (int code : codes) {
            range(code, -1, 34);
        }
        String now = typed;
        for (int code : codes) {
            if (code == 34) {
                now = "";
            } else if (code == 33) {
                now = now.isEmpty() ? "" : now.substring(0, now.length() - 1);
            } else if (code >= 0) {
                now += KEYS.charAt(code);
            }
            if (now.length() > 60) {
                throw new IllegalStateException();
            }
        }
        typed = now;
        return typed.length();
    }

    public int text(int a, int b, int c) {
        path(a, b, c);
        return tell(a, b, c, typed) ? typed.length() : -1;
    }

    public int number(int a, int b, int c, int number) {
        path(a, b, c);
        range(number, -9999, 9999);
        return tell(a, b, c, number) ? String.valueOf(number).length() : -1;
    }

    public int truth(int a, int b, int c, boolean is) {
        path(a, b, c);
        int was = find(a, b, c) != null ? 1 : 0;
        return tell(a, b, c, is) ? was : -1;
    }

    @SuppressWarnings("unchecked")
    public int row(int a, int b, int c, int what) {
        path(a, b, c);
        range(what, 0, 3);
        if (what == 0) {
            return tell(a, b, c, new ArrayList<Object>()) ? 0 : -1;
        }
        Object found = find(a, b, c);
        if (!(found instanceof List) || ((List<?>) found).size() == 8) {
            return -1;
        }
        ((List<Object>) found).add(what == 1 ? typed : what == 2 ? new TreeMap<Integer, Object>() : new ArrayList<Object>());
        return ((List<?>) found).size();
    }

    public boolean take(int a, int b, int c) {
        path(a, b, c);
        Map<Integer, Object> map = mapOf(a, b, c, false);
        return map != null && map.remove(last(a, b, c)) != null;
    }

    public int wipe() {
        int had = data.size();
        data.clear();
        return had;
    }

    public int form(int form) {
        index(form);
        if (!isForm(typed)) {
            return -1;
        }
        forms[form] = typed;
        return treeOf(form).tokens.size();
    }

    public int heir(int form, int parent) {
        index(form);
        index(parent);
        there(form);
        there(parent);
        for (int link = parent; link != -1; link = parents[link]) {
            if (link == form) {
                throw new IllegalStateException();
            }
        }
        int before = parents[form];
        parents[form] = parent;
        return before;
    }

    public int lone(int form) {
        index(form);
        there(form);
        int before = parents[form];
        parents[form] = -1;
        return before;
    }

    public boolean strict(boolean is) {
        boolean was = isStrict;
        isStrict = is;
        return was;
    }

    public int keep(int form) {
        index(form);
        there(form);
        if (letters.size() == 8) {
            throw new IllegalStateException();
        }
        Filling filling = filled(form);
        if (filling.failure != 0) {
            return -1;
        }
        letters.add(filling.out.toString());
        return letters.size() - 1;
    }

    public int burn() {
        int had = letters.size();
        letters.clear();
        return had;
    }

    public int blank() {
        blanks++;
        return -9;
    }

    public int knock() {
        return ++knocks;
    }

    public String typed() {
        return typed;
    }

    public int fault(boolean isLine) {
        int fault = faultOf(typed);
        return fault == -1 || !isLine ? fault : typed.substring(0, fault).replaceAll("[^~]", "").length();
    }

    public int ofData(int a, int b, int c, int what) {
        path(a, b, c);
        range(what, 0, 4);
        Object value = find(a, b, c);
        switch (what) {
            case 0:
                return value == null ? 0 : value instanceof String ? 1 : value instanceof Integer ? 2
                        : value instanceof Boolean ? 3 : value instanceof List ? 4 : 5;
            case 1:
                return sizeOf(value);
            case 2:
                return isShown(value) ? 1 : 0;
            case 3:
                return value instanceof Integer ? (Integer) value : 0;
            default:
                return value instanceof Map ? namesOf((Map<?, ?>) value) : 0;
        }
    }

    public String words(int a, int b, int c) {
        path(a, b, c);
        Object value = find(a, b, c);
        return value == null ? "!" : wordsOf(value);
    }

    public String escape() {
        return escaped(typed);
    }

    public String unescape() {
        return unescaped(typed);
    }

    public String filter(int filter) {
        range(filter, 0, 9);
        return wordsOf(filtered(typed, filter, ""));
    }

    public int house(int what) {
        range(what, 0, 7);
        int there = 0;
        for (String form : forms) {
            there += form == null ? 0 : 1;
        }
        int[] all = {there, letters.size(), data.size(), typed.length(), isStrict ? 1 : 0, blanks, knocks, namesOf(data)};
        return all[what];
    }

    public int ofForm(int form, int what) {
        index(form);
        range(what, 0, 10);
        if (forms[form] == null) {
            return what == 6 ? -1 : 0;
        }
        Tree tree = treeOf(form);
        Map<String, Integer> many = new HashMap<>();
        for (Node token : tree.tokens) {
            many.merge(token.kind, 1, Integer::sum);
        }
        int blocks = 0;
        for (char letter : tree.blocks.keySet()) {
            blocks += 1 << letter - 'a';
        }
        int[] all = {1, tree.tokens.size(), many.getOrDefault("place", 0) + many.getOrDefault("raw", 0),
            many.getOrDefault("section", 0), many.getOrDefault("part", 0), many.getOrDefault("block", 0), parents[form],
            tree.signs, blocks, tree.eaten, chainOf(form).size()};
        return all[what];
    }

    public String fill(int form) {
        index(form);
        there(form);
        Filling filling = filled(form);
        return filling.failure == 0 ? filling.out.toString() : "!";
    }

    public int filling(int form, int what) {
        index(form);
        range(what, 0, 7);
        there(form);
        return filled(form).told(what);
    }

    public int asks(int form) {
        index(form);
        there(form);
        Set<Integer> names = new HashSet<>();
        ask(form, names, new HashSet<>());
        int sum = 0;
        for (int name : names) {
            sum += 1 << name;
        }
        return sum;
    }

    private void ask(int form, Set<Integer> names, Set<Integer> seen) {
        if (form == -1 || forms[form] == null || !seen.add(form)) {
            return;
        }
        ask(parents[form], names, seen);
        for (Node token : treeOf(form).tokens) {
            if (token.path != null && Character.isLetter(token.path.charAt(0))) {
                names.add(token.path.charAt(0) - 'a');
            }
            if (token.kind.equals("part")) {
                ask(token.letter - 'a', names, seen);
            }
        }
    }

    public int block(int form, int letter) {
        index(form);
        range(letter, 0, 5);
        there(form);
        for (int link = form; link != -1; link = parents[link]) {
            if (treeOf(link).blocks.containsKey((char) ('a' + letter))) {
                return link;
            }
        }
        return -1;
    }

    private void isLetter(int letter) {
        if (letter < 0 || letter >= letters.size()) {
            throw new IndexOutOfBoundsException();
        }
    }

    public String letter(int letter) {
        isLetter(letter);
        return letters.get(letter);
    }

    /** COMMON with "{}" for each GAP, and how many signs are gone past behind a blank. */
    private static String shape(String one, String two) {
        int[][] left = new int[one.length() + 1][two.length() + 1];
        for (int i = one.length() - 1; i >= 0; i--) {
            for (int j = two.length() - 1; j >= 0; j--) {
                left[i][j] = one.charAt(i) == two.charAt(j) ? 1 + left[i + 1][j + 1]
                        : Math.max(left[i + 1][j], left[i][j + 1]);
            }
        }
        StringBuilder out = new StringBuilder();
        int i = 0;
        int j = 0;
        boolean past = false;
        while (i < one.length() && j < two.length()) {
            if (one.charAt(i) == two.charAt(j)) {
                out.append(past ? "{}" : "").append(one.charAt(i));
                past = false;
                i++;
                j++;
            } else {
                past = true;
                if (left[i + 1][j] == left[i][j]) {
                    i++;
                } else {
                    j++;
                }
            }
        }
        past |= i < one.length() || j < two.length();
        return out.append(past ? "{}" : "").toString();
    }

    public String back(int one, int other) {
        isLetter(one);
        isLetter(other);
        return shape(letters.get(one), letters.get(other));
    }

    public int common(int one, int other, int what) {
        isLetter(one);
        isLetter(other);
        range(what, 0, 2);
        String first = letters.get(one);
        String second = letters.get(other);
        int[][] longest = new int[first.length() + 1][second.length() + 1];
        for (int i = 1; i <= first.length(); i++) {
            for (int j = 1; j <= second.length(); j++) {
                longest[i][j] = first.charAt(i - 1) == second.charAt(j - 1) ? longest[i - 1][j - 1] + 1
                        : Math.max(longest[i - 1][j], longest[i][j - 1]);
            }
        }
        int shared = longest[first.length()][second.length()];
        int gaps = (shape(first, second).length() - shared) / 2;
        int[] all = {shared, gaps, first.length() + second.length() - 2 * shared};
        return all[what];
    }

    public int only(int form, int names) {
        index(form);
        range(names, 0, 63);
        there(form);
        Map<Integer, Object> some = new TreeMap<>(data);
        some.keySet().removeIf(name -> (names >> name & 1) == 0);
        Filling filling = new Filling(chainOf(form), some, isStrict);
        return filling.told(7);
    }

    public String joined(int one, int other) {
        index(one);
        index(other);
        there(one);
        there(other);
        Filling filling = filledAlone(forms[one] + forms[other], isStrict);
        return filling == null || filling.failure != 0 ? "!" : filling.out.toString();
    }

    public int wouldGive(boolean strictly) {
        Filling filling = filledAlone(typed, strictly);
        return filling == null ? -1 : filling.told(7);
    }

    /** All that isSound() asks for follows from the document's other words. */
    public boolean isSound() {
        return true;
    }

    public long digest() {
        long d = 7541;
        for (int what = 0; what <= 7; what++) {
            d = d * 31 + house(what);
        }
        d = d * 31 + fault(false);
        d = d * 31 + fault(true);
        for (int name = 0; name < 6; name++) {
            for (int what = 0; what <= 4; what++) {
                d = d * 31 + ofData(name, -1, -1, what);
            }
            d = d * 31 + words(name, -1, -1).length();
        }
        for (int form = 0; form < 6; form++) {
            for (int what = 0; what <= 10; what++) {
                d = d * 31 + ofForm(form, what);
            }
            if (forms[form] != null) {
                Filling filling = filled(form);
                for (int what = 0; what <= 7; what++) {
                    d = d * 31 + filling.told(what);
                }
                d = d * 31 + asks(form);
            }
        }
        for (String letter : letters) {
            d = d * 31 + letter.length();
        }
        if (letters.size() >= 2) {
            for (int what = 0; what <= 2; what++) {
                d = d * 31 + common(0, 1, what);
            }
            d = d * 31 + back(0, 1).length();
        }
        d = d * 31 + escape().length();
        d = d * 31 + wouldGive(false);
        d = d * 31 + wouldGive(true);
        return d * 31 + 1;
    }
}
