import java.lang.reflect.Constructor;
import java.lang.reflect.Field;
import java.lang.reflect.Method;
import java.lang.reflect.Modifier;
import java.util.ArrayList;
import java.util.Collections;
import java.util.List;

/** "The public face": what the document writes out, and nothing else that can be seen from outside. */
public final class FaceTest {
    private static final String ILLEGAL = " throws java.lang.IllegalArgumentException";
    private static final String OUTSIDE = " throws java.lang.IndexOutOfBoundsException";
    private static final String BOTH = ILLEGAL + ",java.lang.IndexOutOfBoundsException";

    public static void main(String[] args) {
        theClass();
        constants();
        constructors();
        methods();
        classesInside();
        Due.finish();
    }

    private static void theClass() {
        Due.same("the class", Modifier.toString(TimeoutYard.class.getModifiers()), "public final");
        Due.same("its package", TimeoutYard.class.getPackageName(), "");
        Due.same("what it extends", TimeoutYard.class.getSuperclass().getName(), "java.lang.Object");
        Due.same("what it implements", () -> TimeoutYard.class.getInterfaces().length, 0);
    }

    private static void constants() {
        List<String> seen = new ArrayList<>();
        for (Field field : TimeoutYard.class.getDeclaredFields()) {
            if (!Modifier.isPrivate(field.getModifiers())) {
                seen.add(field.toGenericString());
            }
        }
        compare("constants", seen, "public static final int TimeoutYard.FAILED", "public static final int TimeoutYard.NONE",
                "public static final int TimeoutYard.OVERRUN", "public static final int TimeoutYard.PASSED",
                "public static final int TimeoutYard.UNTRIED");
    }

    private static void constructors() {
        List<String> seen = new ArrayList<>();
        for (Constructor<?> constructor : TimeoutYard.class.getDeclaredConstructors()) {
            seen.add(constructor.toGenericString());
        }
        compare("constructors", seen, "public TimeoutYard()");
    }

    private static void methods() {
        List<String> seen = new ArrayList<>();
        for (Method method : TimeoutYard.class.getDeclaredMethods()) {
            if (!Modifier.isPrivate(method.getModifiers())) {
                seen.add(method.toGenericString());
            }
        }
        compare("methods", seen, "public int TimeoutYard.action(int,int,int)" + BOTH, "public int TimeoutYard.count(int)" + ILLEGAL,
                "public int TimeoutYard.look(int,int)" + ILLEGAL, "public int TimeoutYard.note(int)" + OUTSIDE,
                "public int TimeoutYard.run()", "public int TimeoutYard.test(int,int,int,int)" + BOTH,
                "public int TimeoutYard.warning(int)" + OUTSIDE, "public int TimeoutYard.workers(int)" + ILLEGAL);
    }

    /** LANGUAGE.md, rule 1: they are static, none is public or protected, and no method bears a name of the face. */
    private static void classesInside() {
        for (Class<?> inside : TimeoutYard.class.getDeclaredClasses()) {
            int modifiers = inside.getModifiers();
            Due.same(inside + " is static", String.valueOf(Modifier.isStatic(modifiers)), "true");
            Due.same(inside + " is seen", String.valueOf(Modifier.isPublic(modifiers) || Modifier.isProtected(modifiers)), "false");
            for (Method method : inside.getDeclaredMethods()) {
                Due.same(method + " bears a name of the face", String.valueOf(isNameOfFace(method.getName())), "false");
            }
        }
    }

    private static boolean isNameOfFace(String name) {
        for (Method method : TimeoutYard.class.getDeclaredMethods()) {
            if (Modifier.isPublic(method.getModifiers()) && method.getName().equals(name)) {
                return true;
            }
        }
        return false;
    }

    /** The order in which Java tells members is free, so both stand sorted. */
    private static void compare(String what, List<String> seen, String... due) {
        Collections.sort(seen);
        Due.same(what, String.join("\n", seen), String.join("\n", due));
    }
}
