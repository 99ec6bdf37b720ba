import java.lang.reflect.Constructor;
import java.lang.reflect.Field;
import java.lang.reflect.Method;
import java.lang.reflect.Modifier;
import java.util.Arrays;
import java.util.TreeSet;
import java.util.stream.Collectors;

/** The class shows what "The public face" of the document lists, and nothing else. */
public final class FaceTest {
    private static final Check CHECK = new Check("FaceTest");
    private static final String B = "IndexOutOfBoundsException";
    private static final String A = "IllegalArgumentException";
    private static final String S = "IllegalStateException";

    private static final String[] METHODS = {
        "int append(int,int)" + B + "," + A + "," + S,
        "int appendRange(int,int,int,int)" + B + "," + A + "," + S,
        "int clear(int)" + B,
        "int size(int)" + B,
        "int document(int,int)" + B,
        "int rank(int,int)" + B + "," + A,
        "int partitions(int)" + B,
        "int partition(int,int,int)" + B + "," + A,
        "int codeLength(int)" + B,
        "int codeBit(int,int)" + B,
        "int fixedLength(int,int)" + B + "," + A,
        "double bitsPerDocument(int)" + B,
        "int nextAtLeast(int,int)" + B + "," + A,
        "int countIntersection(int)" + A,
        "int intersect(int,int)" + A + "," + B,
        "int unite(int,int,int)" + B + "," + S,
        "int subtract(int,int,int)" + B,
        "int reads()",
        "int hits()",
        "int setCapacity(int)" + A,
        "int cached()",
        "int cachedAt(int)" + B,
        "int undo()" + S,
        "long digest()",
    };

    public static void main(String[] args) {
        Class<?> face = MonotonePostings.class;
        CHECK.same("modifiers", Modifier.toString(face.getModifiers()), "public final");
        TreeSet<String> methods = new TreeSet<>();
        TreeSet<String> names = new TreeSet<>();
        for (Method method : face.getDeclaredMethods()) {
            if (!Modifier.isPrivate(method.getModifiers())) {
                methods.add(described(method));
                names.add(method.getName());
            }
        }
        CHECK.same("methods", methods, new TreeSet<>(Arrays.asList(METHODS)));
        noPrivateNamesake(face, names);
        for (Class<?> inner : face.getDeclaredClasses()) {
            CHECK.same(inner + " is static", Modifier.isStatic(inner.getModifiers()), true);
            noPrivateNamesake(inner, names);
        }
        fields(face);
        Constructor<?>[] constructors = face.getDeclaredConstructors();
        CHECK.is("constructors", constructors.length, 1);
        CHECK.same("constructor", constructors[0].toString(), "public MonotonePostings()");
        CHECK.end();
    }

    private static String described(Method method) {
        String parameters = Arrays.stream(method.getParameterTypes())
                .map(Class::getSimpleName).collect(Collectors.joining(","));
        String exceptions = Arrays.stream(method.getExceptionTypes())
                .map(Class::getSimpleName).collect(Collectors.joining(","));
        return method.getReturnType() + " " + method.getName() + "(" + parameters + ")" + exceptions;
    }

    private static void noPrivateNamesake(Class<?> owner, TreeSet<String> names) {
        for (Method method : owner.getDeclaredMethods()) {
            boolean namesake = names.contains(method.getName());
            boolean shown = Modifier.isPublic(method.getModifiers());
            CHECK.same(method + " has a name of its own", !namesake || shown, true);
        }
    }

    private static void fields(Class<?> face) {
        for (Field field : face.getDeclaredFields()) {
            int modifiers = field.getModifiers();
            String due = field.getName().equals("NONE") ? "public static final" : "private";
            CHECK.same(field.toString(), Modifier.toString(modifiers).startsWith(due), true);
            boolean constant = !Modifier.isStatic(modifiers) || Modifier.isFinal(modifiers);
            CHECK.same(field + " is no static state", constant, true);
        }
    }
}
