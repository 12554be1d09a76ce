import java.lang.reflect.Constructor;
import java.lang.reflect.Field;
import java.lang.reflect.Method;
import java.lang.reflect.Modifier;
import java.util.ArrayList;
import java.util.List;
import java.util.Set;
import java.util.TreeSet;

/** The public face of the document, and rule 1 of LANGUAGE.md: nothing else can be seen from outside. */
public final class FaceTest {
    private static final Checks CHECKS = new Checks();
    private static final String ARGUMENT = " throws IllegalArgumentException";
    private static final Set<String> FACE = Set.of(
        "int add(int,int,int,int)" + ARGUMENT + ",IllegalStateException",
        "void set(int,int,int,int,int)" + ARGUMENT,
        "int cut(int)" + ARGUMENT,
        "int wrong()",
        "int rewrite() throws IllegalStateException",
        "int place(int)" + ARGUMENT,
        "void bundles(int)" + ARGUMENT,
        "int size()",
        "int byteAt(int)" + ARGUMENT,
        "int poke(int,int)" + ARGUMENT,
        "int verify()",
        "int register(int,int)" + ARGUMENT,
        "int memory(int,int)" + ARGUMENT,
        "int run(boolean,int,int)" + ARGUMENT,
        "int told(int)" + ARGUMENT,
        "int registerAt(int)" + ARGUMENT,
        "int memoryAt(int)" + ARGUMENT,
        "void clear()");

    public static void main(String[] args) {
        CHECKS.due("NONE", FaultIsolation.NONE, -1);
        CHECKS.due("LONG", FaultIsolation.LONG, -2);
        CHECKS.holds("the class is public and final",
            Modifier.isPublic(FaultIsolation.class.getModifiers()) && Modifier.isFinal(FaultIsolation.class.getModifiers()));
        methods();
        fields();
        constructors();
        CHECKS.end();
    }

    private static void methods() {
        Set<String> seen = new TreeSet<>();
        Set<String> names = new TreeSet<>();
        for (Method m : FaultIsolation.class.getDeclaredMethods()) {
            if (!Modifier.isPrivate(m.getModifiers())) {
                seen.add(described(m));
                names.add(m.getName());
            }
        }
        CHECKS.holds("the methods that are seen are the face's: " + seen, seen.equals(FACE));
        for (Method m : FaultIsolation.class.getDeclaredMethods()) {
            if (Modifier.isPrivate(m.getModifiers())) {
                CHECKS.holds("no private method bears a public one's name: " + m, !names.contains(m.getName()));
            }
        }
    }

    private static String described(Method m) {
        String text = m.getReturnType() + " " + m.getName() + "(" + names(m.getParameterTypes()) + ")";
        return m.getExceptionTypes().length == 0 ? text : text + " throws " + names(m.getExceptionTypes());
    }

    private static String names(Class<?>[] types) {
        List<String> names = new ArrayList<>();
        for (Class<?> type : types) {
            names.add(type.getSimpleName());
        }
        return String.join(",", names);
    }

    private static void fields() {
        for (Field f : FaultIsolation.class.getDeclaredFields()) {
            boolean constant = f.getName().equals("NONE") || f.getName().equals("LONG");
            CHECKS.holds("a constant of the face, or private: " + f, constant || Modifier.isPrivate(f.getModifiers()));
            CHECKS.holds("static fields are final: " + f,
                !Modifier.isStatic(f.getModifiers()) || Modifier.isFinal(f.getModifiers()));
        }
    }

    private static void constructors() {
        Constructor<?>[] all = FaultIsolation.class.getDeclaredConstructors();
        CHECKS.due("constructors", all.length, 1);
        CHECKS.holds("it takes a region", names(all[0].getParameterTypes()).equals("int")
            && Modifier.isPublic(all[0].getModifiers()));
    }
}
