import java.lang.reflect.Constructor;
import java.lang.reflect.Field;
import java.lang.reflect.Method;
import java.lang.reflect.Modifier;
import java.util.Set;
import java.util.TreeSet;

/** The public face, no more and no less. */
public final class FaceTest {
    private static final Set<String> METHODS = Set.of(
            "void sign(int)", "int read()", "int category()", "int digits(int)", "int scale()",
            "boolean follows(int,int) throws java.lang.ArrayIndexOutOfBoundsException",
            "int currency(int)", "int at(int)", "boolean same(int)", "int insertion(int)");

    public static void main(String[] args) {
        Checks checks = new Checks("face");
        checks.due("NONE", PictureRows.NONE, -1);
        checks.due("is final", Modifier.isFinal(PictureRows.class.getModifiers()), true);
        Constructor<?>[] constructors = PictureRows.class.getDeclaredConstructors();
        checks.due("constructors", constructors.length, 1);
        checks.due("constructor's parameters", constructors[0].getParameterCount(), 0);
        checks.due("methods are the document's " + methods(), methods().equals(new TreeSet<>(METHODS)), true);
        for (Field field : PictureRows.class.getDeclaredFields()) {
            boolean isPrivate = Modifier.isPrivate(field.getModifiers());
            checks.due("private: " + field.getName(), isPrivate, !field.getName().equals("NONE"));
        }
        checks.end();
    }

    private static Set<String> methods() {
        Set<String> found = new TreeSet<>();
        for (Method method : PictureRows.class.getDeclaredMethods()) {
            if (!Modifier.isPrivate(method.getModifiers())) {
                found.add(method.toGenericString().replace("PictureRows.", "").replaceFirst("^public (final )?", ""));
            }
        }
        return found;
    }
}
