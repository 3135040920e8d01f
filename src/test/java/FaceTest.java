import java.lang.reflect.Constructor;
import java.lang.reflect.Field;
import java.lang.reflect.Method;
import java.lang.reflect.Modifier;
import java.util.Arrays;
import java.util.Set;
import java.util.TreeSet;

/** The class has the document's face, and nothing else that can be reached from outside. */
final class FaceTest {
    private static final String I = "IllegalArgumentException";
    private static final String U = I + " UnsupportedOperationException";
    private static final String[] DUE = {
        "boolean subject 2 " + I, "int quota 2 " + I, "boolean list 4 " + U, "boolean flows 2 " + I,
        "int make 4 " + U, "int set 4 " + I, "int give 4 " + I, "int trim 3 " + I, "int remove 2 " + I,
        "int read 4 " + I, "int size 3 " + I, "int there 3 " + I, "int listed 3 " + I, "int release 4 " + U,
        "int seen 2 " + I, "int told 2 " + I};

    public static void main(String[] args) {
        Class<?> face = TierHouse.class;
        Check.same("public and final", face.getModifiers(), Modifier.PUBLIC | Modifier.FINAL);
        methods(face);
        fields(face);
        Constructor<?>[] constructors = face.getDeclaredConstructors();
        Check.same("one constructor", constructors.length, 1);
        Check.same("it is public", constructors[0].getModifiers(), Modifier.PUBLIC);
        for (Class<?> inside : face.getDeclaredClasses()) {
            Check.same(inside + " is static", Modifier.isStatic(inside.getModifiers()), true);
            Check.same(inside + " is not public", Modifier.isPublic(inside.getModifiers()), false);
        }
        Check.close("the face");
    }

    private static void methods(Class<?> face) {
        Set<String> open = new TreeSet<>();
        Set<String> openNames = new TreeSet<>();
        Set<String> hiddenNames = new TreeSet<>();
        for (Method method : face.getDeclaredMethods()) {
            if (Modifier.isPrivate(method.getModifiers())) {
                hiddenNames.add(method.getName());
            } else {
                Check.same(method + " is public alone", method.getModifiers(), Modifier.PUBLIC);
                open.add(asText(method));
                openNames.add(method.getName());
            }
        }
        Check.same("due are " + Arrays.toString(DUE) + ", there are " + open,
            open.equals(new TreeSet<>(Arrays.asList(DUE))), true);
        hiddenNames.retainAll(openNames);
        Check.same("private methods with a public one's name " + hiddenNames, hiddenNames.isEmpty(), true);
    }

    private static String asText(Method method) {
        StringBuilder text = new StringBuilder(method.getReturnType() + " " + method.getName() + " "
            + method.getParameterCount());
        for (Class<?> thrown : method.getExceptionTypes()) {
            text.append(' ').append(thrown.getSimpleName());
        }
        return text.toString();
    }

    private static void fields(Class<?> face) {
        for (Field field : face.getDeclaredFields()) {
            boolean isConstant = field.getName().equals("NONE");
            Check.same(field + " is private", Modifier.isPrivate(field.getModifiers()), !isConstant);
            if (Modifier.isStatic(field.getModifiers())) {
                Check.same(field + " is final", Modifier.isFinal(field.getModifiers()), true);
            }
        }
    }
}
