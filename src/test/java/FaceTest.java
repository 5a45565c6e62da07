import java.lang.reflect.Constructor;
import java.lang.reflect.Field;
import java.lang.reflect.Method;
import java.lang.reflect.Modifier;
import java.util.Arrays;
import java.util.Set;
import java.util.TreeSet;

/** The face of the class is the document's, and nothing besides (LANGUAGE.md, rules 1 and 5). */
public final class FaceTest {
    private static final String[] FACE = {
        "int build(int) IllegalArgumentException IllegalStateException",
        "int setPassers(int,int,int) IndexOutOfBoundsException IllegalArgumentException",
        "int setTaste(int,int,int) IndexOutOfBoundsException IllegalArgumentException",
        "int street(int,int) IndexOutOfBoundsException",
        "int ear(int,int,boolean) IndexOutOfBoundsException",
        "int addOrgan(int,int,int) IndexOutOfBoundsException IllegalArgumentException IllegalStateException",
        "int setBarrel(int,int) IndexOutOfBoundsException IllegalArgumentException",
        "int send(int,int,int) IndexOutOfBoundsException IllegalStateException",
        "int organ(int,int) IndexOutOfBoundsException",
        "int banished(int,int) IndexOutOfBoundsException",
        "int heard(int,int) IndexOutOfBoundsException",
        "int pass(int) IllegalArgumentException",
        "int count(int) IndexOutOfBoundsException",
        "int foresee(int,int) IndexOutOfBoundsException IllegalArgumentException",
        "int advise(int,int,int) IndexOutOfBoundsException IllegalArgumentException",
        "int census()",
        "int byteAt(int) IndexOutOfBoundsException",
        "double mean()",
        "long digest()",
    };

    public static void main(String[] args) {
        int kind = OrganCensus.class.getModifiers();
        Check.isTrue("the class is public and final", Modifier.isPublic(kind) && Modifier.isFinal(kind));
        publicMethods();
        hiddenMembers();
        Check.end("FaceTest");
    }

    private static void publicMethods() {
        Set<String> got = new TreeSet<>();
        for (Method method : OrganCensus.class.getDeclaredMethods()) {
            if (!Modifier.isPrivate(method.getModifiers())) {
                Check.isTrue(method + " is public and not static",
                    Modifier.isPublic(method.getModifiers()) && !Modifier.isStatic(method.getModifiers()));
                got.add(text(method));
            }
        }
        Check.same("the public methods", got.toString(), new TreeSet<>(Arrays.asList(FACE)).toString());
        Constructor<?>[] makers = OrganCensus.class.getDeclaredConstructors();
        Check.same("constructors", makers.length, 1);
        Check.same("the constructor", makers[0].toString(), "public OrganCensus()");
    }

    private static void hiddenMembers() {
        Set<String> names = new TreeSet<>();
        for (String line : FACE) {
            names.add(line.substring(line.indexOf(' ') + 1, line.indexOf('(')));
        }
        checkHidden(OrganCensus.class, names);
        for (Field field : OrganCensus.class.getDeclaredFields()) {
            Check.isTrue(field + " is private", Modifier.isPrivate(field.getModifiers()));
        }
        for (Class<?> inside : OrganCensus.class.getDeclaredClasses()) {
            Check.isTrue(inside + " is static and not public",
                Modifier.isStatic(inside.getModifiers()) && !Modifier.isPublic(inside.getModifiers()));
            checkHidden(inside, names);
        }
    }

    private static void checkHidden(Class<?> type, Set<String> publicNames) {
        for (Method method : type.getDeclaredMethods()) {
            boolean isFace = type == OrganCensus.class && Modifier.isPublic(method.getModifiers());
            Check.isTrue(method + " does not bear a public method's name",
                isFace || !publicNames.contains(method.getName()));
        }
        for (Field field : type.getDeclaredFields()) {
            Check.isTrue(field + " is final, if static",
                !Modifier.isStatic(field.getModifiers()) || Modifier.isFinal(field.getModifiers()));
        }
    }

    private static String text(Method method) {
        StringBuilder line = new StringBuilder(method.getReturnType().getSimpleName());
        line.append(' ').append(method.getName()).append('(');
        String comma = "";
        for (Class<?> parameter : method.getParameterTypes()) {
            line.append(comma).append(parameter.getSimpleName());
            comma = ",";
        }
        line.append(')');
        for (Class<?> thrown : method.getExceptionTypes()) {
            line.append(' ').append(thrown.getSimpleName());
        }
        return line.toString();
    }
}
