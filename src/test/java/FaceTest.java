import java.lang.reflect.Constructor;
import java.lang.reflect.Field;
import java.lang.reflect.Method;
import java.lang.reflect.Modifier;
import java.util.Arrays;
import java.util.Set;
import java.util.TreeSet;

/** The public face: the document's members with their types and throws clauses, and no other. */
public final class FaceTest {
    private static final Set<String> CONSTRUCTORS = Set.of("public PictureRows()");
    private static final Set<String> CONSTANTS = Set.of("public static final int PictureRows.NONE");
    private static final Set<String> METHODS = Set.of(
            "public void PictureRows.sign(int)",
            "public int PictureRows.read()",
            "public int PictureRows.category()",
            "public int PictureRows.digits(int)",
            "public int PictureRows.scale()",
            "public boolean PictureRows.follows(int,int) throws java.lang.ArrayIndexOutOfBoundsException",
            "public int PictureRows.currency(int)",
            "public int PictureRows.at(int)",
            "public boolean PictureRows.same(int)",
            "public int PictureRows.insertion(int)");

    public static void main(String[] args) {
        Sentences face = new Sentences("the public face");
        theClass(face.test("public final class PictureRows"));
        constants(face.test("public static final int NONE = -1, and no other field"));
        same(face.test("public PictureRows(), and no other constructor"), constructors(), CONSTRUCTORS);
        same(face.test("the methods, and no other"), methods(), METHODS);
        insides(face.test("the classes inside are static and not public"));
        privateNames(face.test("no private method bears the name of a public one"));
        face.end();
    }

    private static void theClass(Checks checks) {
        checks.due("class is " + PictureRows.class.toGenericString(),
                PictureRows.class.toGenericString().equals("public final class PictureRows"), true);
        checks.due("class above it is Object", PictureRows.class.getSuperclass() == Object.class, true);
        checks.due("interfaces", PictureRows.class.getInterfaces().length, 0);
    }

    private static void constants(Checks checks) {
        checks.due("NONE", PictureRows.NONE, -1);
        Set<String> found = new TreeSet<>();
        for (Field field : PictureRows.class.getDeclaredFields()) {
            if (!Modifier.isPrivate(field.getModifiers())) {
                found.add(field.toGenericString());
            }
        }
        same(checks, found, CONSTANTS);
    }

    private static Set<String> constructors() {
        Set<String> found = new TreeSet<>();
        for (Constructor<?> constructor : PictureRows.class.getDeclaredConstructors()) {
            found.add(constructor.toGenericString());
        }
        return found;
    }

    private static Set<String> methods() {
        Set<String> found = new TreeSet<>();
        for (Method method : PictureRows.class.getDeclaredMethods()) {
            if (!Modifier.isPrivate(method.getModifiers())) {
                found.add(method.toGenericString());
            }
        }
        return found;
    }

    private static void same(Checks checks, Set<String> found, Set<String> wanted) {
        for (String member : found) {
            checks.due("the document has: " + member, wanted.contains(member), true);
        }
        for (String member : wanted) {
            checks.due("the class has: " + member, found.contains(member), true);
        }
    }

    private static void insides(Checks checks) {
        Class<?>[] insides = PictureRows.class.getDeclaredClasses();
        checks.due("classes in all, at most 12: " + insides.length, insides.length < 12, true);
        for (Class<?> inside : insides) {
            int modifiers = inside.getModifiers();
            checks.due("static: " + inside, Modifier.isStatic(modifiers), true);
            checks.due("public: " + inside, Modifier.isPublic(modifiers) || Modifier.isProtected(modifiers), false);
        }
    }

    private static void privateNames(Checks checks) {
        Set<String> open = new TreeSet<>();
        for (Method method : PictureRows.class.getMethods()) {
            open.add(method.getName());
        }
        Method[] own = PictureRows.class.getDeclaredMethods();
        checks.due("methods in all", own.length >= METHODS.size(), true);
        Arrays.stream(own).filter(method -> Modifier.isPrivate(method.getModifiers())).forEach(
                method -> checks.due("a public name: " + method.getName(), open.contains(method.getName()), false));
    }
}
