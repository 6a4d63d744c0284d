import java.lang.reflect.Constructor;
import java.lang.reflect.Executable;
import java.lang.reflect.Field;
import java.lang.reflect.Method;
import java.lang.reflect.Modifier;
import java.util.Arrays;
import java.util.Set;
import java.util.TreeSet;
import java.util.stream.Collectors;

/** The public face of the document, and rules 1 and 5 of LANGUAGE.md as far as the compiled class shows them. */
public final class FaceTest {
    private static final Check CHECK = new Check("FaceTest");
    private static final String ARGUMENT = "throws IllegalArgumentException";
    private static final String STATE = "throws IllegalStateException";
    private static final String BOTH = "throws IllegalArgumentException,IllegalStateException";

    private static final Set<String> METHODS = new TreeSet<>(Set.of(
            "int task(int,int,int,int,int) " + BOTH, "boolean strict(int,boolean) ", "int mutex(int,int) " + BOTH,
            "int step(int,int,int) " + BOTH, "void start() " + STATE, "boolean release(int) ", "int tick(int) " + BOTH,
            "int seen(int,int) ", "int held(int,int) ", "int event(int,int) ", "int response(int) " + ARGUMENT,
            "double load() ", "int look(int) "));

    public static void main(String[] args) {
        Class<?> face = TaskKernel.class;
        CHECK.due("the modifiers of the class", Modifier.toString(face.getModifiers()), "public final");
        CHECK.due("the methods that are not private", notPrivate(face), METHODS);
        CHECK.due("the constructors", constructors(face), "[public (int)]");
        CHECK.due("the fields that are not private", fields(face), "[public static final int NONE]");
        noPrivateMethodHasAPublicName(face);
        for (Class<?> inside : face.getDeclaredClasses()) {
            CHECK.due(inside.getSimpleName() + " is static", Modifier.isStatic(inside.getModifiers()), true);
            CHECK.due(inside.getSimpleName() + " is seen from outside its package",
                    Modifier.isPublic(inside.getModifiers()) || Modifier.isProtected(inside.getModifiers()), false);
            dueFinalStatics(inside);
        }
        dueFinalStatics(face);
        CHECK.end();
    }

    private static Set<String> notPrivate(Class<?> face) {
        Set<String> all = new TreeSet<>();
        for (Method method : face.getDeclaredMethods()) {
            if (!Modifier.isPrivate(method.getModifiers())) {
                String modifiers = Modifier.toString(method.getModifiers());
                all.add((modifiers.equals("public") ? "" : modifiers + " ") + method.getReturnType() + " "
                        + method.getName() + parameters(method) + " " + thrown(method));
            }
        }
        return all;
    }

    private static String parameters(Executable executable) {
        return Arrays.stream(executable.getParameterTypes()).map(Class::getSimpleName)
                .collect(Collectors.joining(",", "(", ")"));
    }

    private static String thrown(Method method) {
        String names = Arrays.stream(method.getExceptionTypes()).map(Class::getSimpleName)
                .collect(Collectors.joining(","));
        return names.isEmpty() ? "" : "throws " + names;
    }

    private static String constructors(Class<?> face) {
        Set<String> all = new TreeSet<>();
        for (Constructor<?> constructor : face.getDeclaredConstructors()) {
            all.add(Modifier.toString(constructor.getModifiers()) + " " + parameters(constructor));
        }
        return all.toString();
    }

    private static String fields(Class<?> face) {
        Set<String> all = new TreeSet<>();
        for (Field field : face.getDeclaredFields()) {
            if (!Modifier.isPrivate(field.getModifiers())) {
                all.add(Modifier.toString(field.getModifiers()) + " " + field.getType() + " " + field.getName());
            }
        }
        return all.toString();
    }

    private static void noPrivateMethodHasAPublicName(Class<?> face) {
        Set<String> names = Arrays.stream(face.getMethods()).filter(m -> m.getDeclaringClass() == face)
                .map(Method::getName).collect(Collectors.toSet());
        for (Method method : face.getDeclaredMethods()) {
            if (Modifier.isPrivate(method.getModifiers())) {
                CHECK.due("the private method " + method.getName() + " bears the name of a public one",
                        names.contains(method.getName()), false);
            }
        }
    }

    private static void dueFinalStatics(Class<?> type) {
        for (Field field : type.getDeclaredFields()) {
            if (Modifier.isStatic(field.getModifiers())) {
                CHECK.due("the static field " + field.getName() + " is final",
                        Modifier.isFinal(field.getModifiers()), true);
            }
        }
    }
}
