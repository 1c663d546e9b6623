import java.lang.reflect.Constructor;
import java.lang.reflect.Field;
import java.lang.reflect.Method;
import java.lang.reflect.Modifier;
import java.util.ArrayList;
import java.util.Arrays;
import java.util.List;
import java.util.Set;
import java.util.TreeSet;

/** The class has the document's face, and no other member that can be seen (LANGUAGE.md, rules 1, 2, 5 and 11). */
public final class FaceTest {

    private static final String[] FACE = {
        "int say(int,int,int,int,int,int) IllegalArgumentException IllegalStateException",
        "int text(int,int,int) IllegalArgumentException",
        "int number(int,int,int,int) IllegalArgumentException",
        "int truth(int,int,int,boolean) IllegalArgumentException",
        "int row(int,int,int,int) IllegalArgumentException",
        "boolean take(int,int,int) IllegalArgumentException",
        "int wipe()",
        "int form(int) IndexOutOfBoundsException",
        "int heir(int,int) IndexOutOfBoundsException IllegalStateException",
        "int lone(int) IndexOutOfBoundsException IllegalStateException",
        "boolean strict(boolean)",
        "int keep(int) IndexOutOfBoundsException IllegalStateException",
        "int burn()",
        "int blank()",
        "int knock()",
        "String typed()",
        "int fault(boolean)",
        "int ofData(int,int,int,int) IllegalArgumentException",
        "String words(int,int,int) IllegalArgumentException",
        "String escape()",
        "String unescape()",
        "String filter(int) IllegalArgumentException",
        "int house(int) IllegalArgumentException",
        "int ofForm(int,int) IndexOutOfBoundsException IllegalArgumentException",
        "String fill(int) IndexOutOfBoundsException IllegalStateException",
        "int filling(int,int) IndexOutOfBoundsException IllegalArgumentException IllegalStateException",
        "int asks(int) IndexOutOfBoundsException IllegalStateException",
        "int block(int,int) IndexOutOfBoundsException IllegalArgumentException IllegalStateException",
        "String letter(int) IndexOutOfBoundsException",
        "String back(int,int) IndexOutOfBoundsException",
        "int common(int,int,int) IndexOutOfBoundsException IllegalArgumentException",
        "int only(int,int) IndexOutOfBoundsException IllegalArgumentException IllegalStateException",
        "String joined(int,int) IndexOutOfBoundsException IllegalStateException",
        "int wouldGive(boolean)",
        "boolean isSound()",
        "long digest()"};

    private FaceTest() {
    }

    public static void main(String[] args) {
        Set<String> due = new TreeSet<>(Arrays.asList(FACE));
        Set<String> got = new TreeSet<>();
        Set<String> names = new TreeSet<>();
        for (Method method : Blankform.class.getDeclaredMethods()) {
            if (!Modifier.isPrivate(method.getModifiers()) && !method.isSynthetic()) {
                Check.due(method.getName() + " is public", Modifier.toString(method.getModifiers()), "public");
                got.add(face(method));
                names.add(method.getName());
            }
        }
        Check.due("the face", got, due);
        Check.due("the class", Modifier.toString(Blankform.class.getModifiers()), "public final");
        Constructor<?>[] constructors = Blankform.class.getDeclaredConstructors();
        Check.due("constructors", constructors.length, 1);
        Check.due("the constructor", constructors[0].toString(), "public Blankform()");
        inside(Blankform.class, names);
        List<Class<?>> classes = new ArrayList<>(Arrays.asList(Blankform.class.getDeclaredClasses()));
        Check.due("some twelve classes at most", classes.size() + 1 <= 12, true);
        for (Class<?> each : classes) {
            Check.due(each + " is static", Modifier.isStatic(each.getModifiers()), true);
            Check.due(each + " is private", Modifier.isPrivate(each.getModifiers()), true);
            inside(each, names);
        }
        Check.end("FaceTest");
    }

    private static String face(Method method) {
        StringBuilder out = new StringBuilder(method.getReturnType().getSimpleName());
        out.append(' ').append(method.getName()).append('(');
        for (int k = 0; k < method.getParameterCount(); k++) {
            out.append(k > 0 ? "," : "").append(method.getParameterTypes()[k].getSimpleName());
        }
        out.append(')');
        for (Class<?> exception : method.getExceptionTypes()) {
            out.append(' ').append(exception.getSimpleName());
        }
        return out.toString();
    }

    private static void inside(Class<?> type, Set<String> names) {
        int own = 0;
        for (Field field : type.getDeclaredFields()) {
            String name = type.getSimpleName() + "." + field.getName();
            Check.due(name + " is private", Modifier.isPrivate(field.getModifiers()), true);
            boolean isStatic = Modifier.isStatic(field.getModifiers());
            Check.due(name + " is final, if static", !isStatic || Modifier.isFinal(field.getModifiers()), true);
            Class<?> of = field.getType();
            Check.due(name + " is a constant, if static", !isStatic || of.isPrimitive() || of == String.class
                    || of.isArray() && of.getComponentType().isPrimitive(), true);
            own += isStatic ? 0 : 1;
        }
        Check.due(type.getSimpleName() + " has some twenty fields at most", own <= 20, true);
        for (Method method : type.getDeclaredMethods()) {
            String name = type.getSimpleName() + "." + method.getName();
            boolean isPrivate = Modifier.isPrivate(method.getModifiers());
            Check.due(name + " bears no public name", isPrivate && names.contains(method.getName()), false);
            Check.due(name + " is private", isPrivate || type == Blankform.class, true);
            Check.due(name + " takes at most seven parameters", method.getParameterCount() <= 7, true);
        }
    }
}
