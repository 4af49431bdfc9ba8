import java.lang.reflect.Constructor;
import java.lang.reflect.Field;
import java.lang.reflect.Method;
import java.lang.reflect.Modifier;
import java.util.Arrays;
import java.util.TreeSet;

/** The public face: what stands there, as it must be declared, and nothing besides. */
public final class FaceTest {
    private static final String PLACE = "IndexOutOfBoundsException";
    private static final String ARGUMENT = "IllegalArgumentException";
    private static final String STATE = "IllegalStateException";

    private static final String[] FACE = {
        "int make(1) " + PLACE + " " + STATE,
        "int load(3) " + PLACE + " " + ARGUMENT + " " + STATE,
        "int part(3) " + PLACE + " " + ARGUMENT + " " + STATE,
        "int join(2) " + PLACE + " " + ARGUMENT + " " + STATE,
        "int move(2) " + PLACE + " " + STATE,
        "boolean hold(1) " + PLACE + " " + STATE,
        "int spoil(3) " + PLACE + " " + ARGUMENT,
        "int lose(1) " + PLACE,
        "int repair(2) " + PLACE + " " + STATE,
        "int broken(1) " + PLACE,
        "boolean isSound(1) " + PLACE,
        "int pallet(2) " + PLACE + " " + ARGUMENT,
        "int entry(3) " + PLACE + " " + ARGUMENT,
        "int contents(2) " + PLACE,
        "int contentsAnew(2) " + PLACE,
        "int declare(3) " + PLACE + " " + ARGUMENT,
        "int mismatch(1) " + PLACE,
        "int fee(2) " + ARGUMENT,
        "int owed(1) " + PLACE,
    };

    public static void main(String[] args) {
        int type = PalletGram.class.getModifiers();
        Check.due("the class is public and final", Modifier.isPublic(type) && Modifier.isFinal(type), true);
        Check.due("NONE", PalletGram.NONE, -1);
        Check.due("CUSTOMS", PalletGram.CUSTOMS, 6);
        Check.same("the methods", methods().toString(), new TreeSet<>(Arrays.asList(FACE)).toString());
        Check.same("the constants", fields().toString(), "[CUSTOMS, NONE]");
        Constructor<?>[] constructors = PalletGram.class.getDeclaredConstructors();
        Check.due("constructors", constructors.length, 1);
        Check.due("its parameters", constructors[0].getParameterCount(), 0);
        Check.due("it is public", Modifier.isPublic(constructors[0].getModifiers()), true);
        privateNamesDiffer();
        Check.end();
    }

    private static TreeSet<String> methods() {
        TreeSet<String> all = new TreeSet<>();
        for (Method method : PalletGram.class.getDeclaredMethods()) {
            if (!Modifier.isPrivate(method.getModifiers()) && !method.isSynthetic()) {
                all.add(told(method));
            }
        }
        return all;
    }

    private static String told(Method method) {
        StringBuilder text = new StringBuilder();
        text.append(method.getReturnType()).append(' ').append(method.getName());
        text.append('(').append(method.getParameterCount()).append(')');
        for (Class<?> parameter : method.getParameterTypes()) {
            Check.same("a parameter of " + method.getName(), parameter.toString(), "int");
        }
        for (Class<?> exception : method.getExceptionTypes()) {
            text.append(' ').append(exception.getSimpleName());
        }
        Check.due(method.getName() + " is public", Modifier.isPublic(method.getModifiers()), true);
        Check.due(method.getName() + " is static", Modifier.isStatic(method.getModifiers()), false);
        return text.toString();
    }

    private static TreeSet<String> fields() {
        TreeSet<String> all = new TreeSet<>();
        for (Field field : PalletGram.class.getDeclaredFields()) {
            if (!Modifier.isPrivate(field.getModifiers()) && !field.isSynthetic()) {
                all.add(field.getName());
            }
        }
        return all;
    }

    private static void privateNamesDiffer() {
        TreeSet<String> names = new TreeSet<>();
        for (Method method : PalletGram.class.getDeclaredMethods()) {
            if (Modifier.isPublic(method.getModifiers())) {
                names.add(method.getName());
            }
        }
        for (Method method : PalletGram.class.getDeclaredMethods()) {
            if (Modifier.isPrivate(method.getModifiers())) {
                Check.due(method.getName() + " is a public name, too", names.contains(method.getName()), false);
            }
        }
    }
}
