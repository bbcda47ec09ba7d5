import java.lang.reflect.Constructor;
import java.lang.reflect.Field;
import java.lang.reflect.Method;
import java.lang.reflect.Modifier;
import java.util.Arrays;
import java.util.Set;
import java.util.TreeSet;
import java.util.stream.Collectors;

/** The public face is the document's, and nothing else can be seen from outside. */
public final class FaceTest {
    private static final String[] METHODS = {
        "boolean unit(int)",
        "int read()",
        "void fact(int,int,int) IndexOutOfBoundsException IllegalArgumentException",
        "boolean forget(int) IndexOutOfBoundsException",
        "int run()",
        "long cents()",
        "long line(int,int) IndexOutOfBoundsException",
        "long changed(int,int,int) IndexOutOfBoundsException IllegalArgumentException",
        "int currency(int,int,int) IllegalArgumentException IllegalStateException",
        "long centsAt(int) IllegalArgumentException",
        "int offer(int) IllegalArgumentException IllegalStateException",
        "long offered(int,int) IndexOutOfBoundsException IllegalArgumentException IllegalStateException",
        "long differs(int,int) IndexOutOfBoundsException",
        "int invoice(int,int) IndexOutOfBoundsException IllegalArgumentException IllegalStateException",
        "long left(int) IndexOutOfBoundsException",
        "boolean refund(int,int) IndexOutOfBoundsException IllegalArgumentException",
        "int learn(int,int) IndexOutOfBoundsException IllegalArgumentException",
    };

    public static void main(String[] args) throws Exception {
        Check check = new Check("FaceTest");
        Set<String> due = new TreeSet<>(Arrays.asList(METHODS));
        Set<String> publicNames = new TreeSet<>();
        Set<String> found = new TreeSet<>();
        for (Method m : PriceLines.class.getDeclaredMethods()) {
            if (!Modifier.isPrivate(m.getModifiers())) {
                found.add(told(m));
                publicNames.add(m.getName());
            }
        }
        check.isTrue("the methods are the document's: " + found, found.equals(due));
        for (Method m : PriceLines.class.getDeclaredMethods()) {
            check.isFalse(m + " bears the name of a public one",
                Modifier.isPrivate(m.getModifiers()) && publicNames.contains(m.getName()));
        }
        for (Field f : PriceLines.class.getDeclaredFields()) {
            check.isTrue(f + " is private", f.getName().equals("NONE") || Modifier.isPrivate(f.getModifiers()));
            check.isTrue(f + " is final if static",
                !Modifier.isStatic(f.getModifiers()) || Modifier.isFinal(f.getModifiers()));
        }
        Constructor<?>[] constructors = PriceLines.class.getDeclaredConstructors();
        check.equal("constructors", constructors.length, 1);
        check.isTrue("the constructor is public", Modifier.isPublic(constructors[0].getModifiers()));
        check.equal("parameters of the constructor", constructors[0].getParameterCount(), 0);
        check.isTrue("the class is public and final", Modifier.isPublic(PriceLines.class.getModifiers())
            && Modifier.isFinal(PriceLines.class.getModifiers()));
        check.equal("NONE", PriceLines.class.getField("NONE").getInt(null), -1);
        check.end();
    }

    private static String told(Method m) {
        String parameters = Arrays.stream(m.getParameterTypes()).map(Class::getSimpleName)
            .collect(Collectors.joining(","));
        String exceptions = Arrays.stream(m.getExceptionTypes()).map(e -> " " + e.getSimpleName())
            .collect(Collectors.joining());
        return m.getReturnType().getSimpleName() + " " + m.getName() + "(" + parameters + ")" + exceptions;
    }
}
