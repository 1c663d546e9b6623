import java.io.DataInputStream;
import java.io.InputStream;
import java.util.ArrayList;
import java.util.HashMap;
import java.util.HashSet;
import java.util.List;
import java.util.Map;
import java.util.Set;
import java.util.TreeMap;

/**
 * Reads the compiled classes and finds which method calls which: calls that are no recursion go at most
 * eight deep (LANGUAGE.md, rule 11), and recursion is where it is meant to be. Methods of one name in
 * one class count as one.
 */
public final class DepthTest {

    private static final int MOST = 8;

    private final Map<String, Set<String>> calls = new TreeMap<>();
    private final Map<String, Set<String>> reached = new HashMap<>();

    private DepthTest() {
    }

    public static void main(String[] args) throws Exception {
        DepthTest test = new DepthTest();
        test.read("Blankform");
        for (Class<?> each : Blankform.class.getDeclaredClasses()) {
            test.read(each.getName());
        }
        for (String method : test.calls.keySet()) {
            test.reached.put(method, test.reachedFrom(method));
        }
        for (String method : test.calls.keySet()) {
            if (test.isRecursive(method, method)) {
                Check.due(method + " may call itself", method.startsWith("Blankform$Filler.fill"), true);
            }
            List<String> deepest = test.deepestFrom(method);
            Check.due(deepest + " is deep", deepest.size() <= MOST, true);
        }
        Check.end("DepthTest");
    }

    private Set<String> reachedFrom(String method) {
        Set<String> all = new HashSet<>();
        List<String> left = new ArrayList<>(calls.getOrDefault(method, Set.of()));
        while (!left.isEmpty()) {
            String next = left.remove(left.size() - 1);
            if (all.add(next)) {
                left.addAll(calls.getOrDefault(next, Set.of()));
            }
        }
        return all;
    }

    private boolean isRecursive(String one, String other) {
        return reached.get(one).contains(other) && reached.get(other).contains(one);
    }

    /** The longest chain of calls; methods that call one another count as one. */
    private List<String> deepestFrom(String method) {
        Set<String> ring = new HashSet<>();
        for (String other : calls.keySet()) {
            if (other.equals(method) || isRecursive(method, other)) {
                ring.add(other);
            }
        }
        List<String> deepest = new ArrayList<>();
        for (String one : ring) {
            for (String next : calls.get(one)) {
                List<String> below = ring.contains(next) ? List.of() : deepestFrom(next);
                if (below.size() > deepest.size()) {
                    deepest = below;
                }
            }
        }
        List<String> all = new ArrayList<>();
        all.add(method);
        all.addAll(deepest);
        return all;
    }

    // ---- the class file

    private Object[] pool;

    private void read(String name) throws Exception {
        try (InputStream file = Blankform.class.getResourceAsStream("/" + name + ".class")) {
            DataInputStream in = new DataInputStream(file);
            in.readInt();
            in.readInt();
            readPool(in);
            in.readUnsignedShort();
            String self = text(((int[]) pool[in.readUnsignedShort()])[0]);
            in.readUnsignedShort();
            in.skipBytes(2 * in.readUnsignedShort());
            readMembers(in, null);
            readMembers(in, self);
        }
    }

    private void readPool(DataInputStream in) throws Exception {
        int count = in.readUnsignedShort();
        pool = new Object[count];
        for (int k = 1; k < count; k++) {
            int tag = in.readUnsignedByte();
            if (tag == 1) {
                pool[k] = in.readUTF();
            } else if (tag == 5 || tag == 6) {
                in.readLong();
                k++;
            } else if (tag == 7 || tag == 8 || tag == 16 || tag == 19 || tag == 20) {
                pool[k] = new int[] {in.readUnsignedShort()};
            } else if (tag == 15) {
                in.skipBytes(3);
            } else if (tag == 3 || tag == 4) {
                in.readInt();
            } else {
                pool[k] = new int[] {in.readUnsignedShort(), in.readUnsignedShort()};
            }
        }
    }

    private String text(int index) {
        return (String) pool[index];
    }

    private void readMembers(DataInputStream in, String self) throws Exception {
        int count = in.readUnsignedShort();
        for (int k = 0; k < count; k++) {
            in.readUnsignedShort();
            String name = text(in.readUnsignedShort());
            in.readUnsignedShort();
            int attributes = in.readUnsignedShort();
            Set<String> called = self == null ? null : calls.computeIfAbsent(self + "." + name, n -> new HashSet<>());
            for (int a = 0; a < attributes; a++) {
                boolean isCode = text(in.readUnsignedShort()).equals("Code");
                byte[] bytes = new byte[in.readInt()];
                in.readFully(bytes);
                if (isCode && called != null) {
                    readCode(bytes, called);
                }
            }
        }
    }

    private static int number(byte[] bytes, int at, int count) {
        int number = 0;
        for (int k = 0; k < count; k++) {
            number = number << 8 | bytes[at + k] & 255;
        }
        return number;
    }

    private void readCode(byte[] bytes, Set<String> called) {
        int from = 8;
        int to = from + number(bytes, 4, 4);
        int at = from;
        while (at < to) {
            int code = bytes[at] & 255;
            if (code >= 182 && code <= 185) {
                int[] method = (int[]) pool[number(bytes, at + 1, 2)];
                String type = text(((int[]) pool[method[0]])[0]);
                String name = text(((int[]) pool[method[1]])[0]);
                if (type.startsWith("Blankform")) {
                    called.add(type + "." + name);
                }
            }
            at += length(bytes, at, from);
        }
    }

    private static int length(byte[] bytes, int at, int from) {
        int code = bytes[at] & 255;
        int aligned = at + 4 - (at - from) % 4;
        if (code == 170) {
            int many = number(bytes, aligned + 8, 4) - number(bytes, aligned + 4, 4) + 1;
            return aligned + 12 + 4 * many - at;
        }
        if (code == 171) {
            return aligned + 8 + 8 * number(bytes, aligned + 4, 4) - at;
        }
        if (code == 196) {
            return (bytes[at + 1] & 255) == 132 ? 6 : 4;
        }
        if (code == 185 || code == 186 || code == 200 || code == 201) {
            return 5;
        }
        if (code == 197) {
            return 4;
        }
        if (code == 16 || code == 18 || code >= 21 && code <= 25 || code >= 54 && code <= 58 || code == 169 || code == 188) {
            return 2;
        }
        boolean isThree = code == 17 || code == 19 || code == 20 || code == 132 || code >= 153 && code <= 168
                || code >= 178 && code <= 184 || code == 187 || code == 189 || code == 192 || code == 193 || code == 198
                || code == 199;
        return isThree ? 3 : 1;
    }
}
