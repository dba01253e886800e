import java.lang.reflect.Constructor;
import java.lang.reflect.Field;
import java.lang.reflect.Method;
import java.lang.reflect.Modifier;
import java.util.Set;
import java.util.TreeSet;

/** The face of the class is the document's, and nothing beside it can be seen from outside. */
public final class FaceTest {
    private static final String[] FACE = {
        "boolean put(int, int)", "int input(int)", "int sum(int, int)", "int difference(int, int)",
        "int product(int, int)", "int shift(int, int)", "int lowered(int)", "int count()", "boolean cut(int)",
        "int run()", "int level(int)", "long meter(int)", "long noise(int)", "long part(int, int, int)",
        "int decrypted(int, int)", "int plain(int, int)", "int secret(int)"
    };

    private final Checks checks = new Checks("FaceTest");

    public static void main(String[] args) {
        FaceTest test = new FaceTest();
        test.theClass();
        test.methods();
        test.constructors();
        test.fields();
        test.classesInside();
        test.checks.finish();
    }

    private void theClass() {
        int modifiers = LevelledRing.class.getModifiers();
        checks.yes("the class is public", Modifier.isPublic(modifiers));
        checks.yes("the class is final", Modifier.isFinal(modifiers));
        checks.same("the package's name is empty", LevelledRing.class.getPackageName().length(), 0);
    }

    private static String textOf(Method method) {
        StringBuilder text = new StringBuilder();
        text.append(method.getReturnType().getName()).append(' ').append(method.getName()).append('(');
        for (Class<?> type : method.getParameterTypes()) {
            text.append(text.charAt(text.length() - 1) == '(' ? "" : ", ").append(type.getName());
        }
        return text.append(')').toString();
    }

    private void methods() {
        Set<String> open = new TreeSet<>();
        Set<String> openNames = new TreeSet<>();
        for (Method method : LevelledRing.class.getDeclaredMethods()) {
            if (!Modifier.isPrivate(method.getModifiers())) {
                checks.yes(method + " is public and not static",
                    (method.getModifiers() & (Modifier.PUBLIC | Modifier.STATIC)) == Modifier.PUBLIC);
                open.add(textOf(method));
                openNames.add(method.getName());
            }
        }
        checks.yes("the methods are those of the document: " + open, open.equals(Set.of(FACE)));
        for (Method method : LevelledRing.class.getDeclaredMethods()) {
            checks.no(method + " is private with a public one's name",
                Modifier.isPrivate(method.getModifiers()) && openNames.contains(method.getName()));
        }
    }

    private void constructors() {
        Constructor<?>[] all = LevelledRing.class.getDeclaredConstructors();
        checks.same("how many constructors there are", all.length, 1);
        checks.yes("the constructor is public", Modifier.isPublic(all[0].getModifiers()));
        checks.yes("the constructor takes an int",
            all[0].getParameterCount() == 1 && all[0].getParameterTypes()[0] == int.class);
    }

    private void fields() {
        for (Field field : LevelledRing.class.getDeclaredFields()) {
            int modifiers = field.getModifiers();
            boolean isNone = field.getName().equals("NONE");
            checks.yes(field + " is private unless it is NONE", Modifier.isPrivate(modifiers) != isNone);
            checks.yes(field + " is final if it is static", !Modifier.isStatic(modifiers) || Modifier.isFinal(modifiers));
            if (isNone) {
                checks.yes("NONE is a public static final int", field.getType() == int.class
                    && modifiers == (Modifier.PUBLIC | Modifier.STATIC | Modifier.FINAL));
            }
        }
    }

    private void classesInside() {
        for (Class<?> inside : LevelledRing.class.getDeclaredClasses()) {
            int modifiers = inside.getModifiers();
            checks.yes(inside + " is static", Modifier.isStatic(modifiers));
            checks.no(inside + " is open", Modifier.isPublic(modifiers) || Modifier.isProtected(modifiers));
        }
    }
}
