import java.lang.reflect.Constructor;
import java.lang.reflect.Field;
import java.lang.reflect.Method;
import java.lang.reflect.Modifier;
import java.util.ArrayList;
import java.util.Arrays;
import java.util.Collections;
import java.util.List;
import java.util.stream.Collectors;

/** The face is the document's, and nothing else can be seen from outside. */
public final class FaceTest {
    private static final String BOTH = "IllegalArgumentException, IllegalStateException";
    private static final String[] METHODS = {
        "int constant(int, int) throws " + BOTH,
        "int compute(int, int, int, int) throws " + BOTH,
        "int load(int, int) throws " + BOTH,
        "int store(int, int) throws " + BOTH,
        "int jump(int) throws " + BOTH,
        "int branch(int, int, int, int) throws " + BOTH,
        "int out(int) throws " + BOTH,
        "int stop(int) throws " + BOTH,
        "void clear()",
        "int forge() throws IllegalStateException",
        "int halfword(int) throws NoSuchElementException",
        "int place(int) throws NoSuchElementException",
        "void poke(int, int) throws IllegalArgumentException",
        "int memory(int) throws IllegalArgumentException",
        "void start() throws IllegalStateException",
        "int run(int) throws " + BOTH,
        "int state()",
        "int at()",
        "int variable(int) throws " + BOTH,
        "int outputs()",
        "int output(int) throws NoSuchElementException",
    };

    public static void main(String[] args) {
        Checks checks = new Checks();
        Class<?> face = ThumbForge.class;
        checks.holds("the class is public and final", Modifier.isPublic(face.getModifiers()) && Modifier.isFinal(face.getModifiers()));
        checks.sameText("methods", visibleMethods(face), sorted(Arrays.asList(METHODS)));
        checks.sameText("constructors", constructors(face), "public ()");
        checks.sameText("fields", visibleFields(face), sorted(List.of("OFF", "RUNS", "ENDED", "TRAPPED")));
        checks.same("OFF", ThumbForge.OFF, 0);
        checks.same("RUNS", ThumbForge.RUNS, 1);
        checks.same("ENDED", ThumbForge.ENDED, 2);
        checks.same("TRAPPED", ThumbForge.TRAPPED, 3);
        staticFieldsAreFinal(checks, face);
        noPrivateMethodHasAPublicName(checks, face);
        checks.finish();
    }

    private static String visibleMethods(Class<?> face) {
        List<String> all = new ArrayList<>();
        for (Method method : face.getDeclaredMethods()) {
            if (!Modifier.isPrivate(method.getModifiers())) {
                all.add(written(method));
            }
        }
        return sorted(all);
    }

    private static String written(Method method) {
        String thrown = names(method.getExceptionTypes());
        return method.getReturnType().getSimpleName() + " " + method.getName() + "(" + names(method.getParameterTypes()) + ")"
            + (thrown.isEmpty() ? "" : " throws " + thrown);
    }

    private static String names(Class<?>[] types) {
        return Arrays.stream(types).map(Class::getSimpleName).collect(Collectors.joining(", "));
    }

    private static String constructors(Class<?> face) {
        List<String> all = new ArrayList<>();
        for (Constructor<?> constructor : face.getDeclaredConstructors()) {
            all.add(Modifier.toString(constructor.getModifiers()) + " (" + names(constructor.getParameterTypes()) + ")");
        }
        return sorted(all);
    }

    private static String visibleFields(Class<?> face) {
        List<String> all = new ArrayList<>();
        for (Field field : face.getDeclaredFields()) {
            if (!Modifier.isPrivate(field.getModifiers())) {
                all.add(field.getName());
            }
        }
        return sorted(all);
    }

    private static void staticFieldsAreFinal(Checks checks, Class<?> face) {
        List<Class<?>> classes = new ArrayList<>(Arrays.asList(face.getDeclaredClasses()));
        classes.add(face);
        for (Class<?> one : classes) {
            for (Field field : one.getDeclaredFields()) {
                int modifiers = field.getModifiers();
                checks.holds(field + " is final if static", !Modifier.isStatic(modifiers) || Modifier.isFinal(modifiers));
            }
        }
    }

    private static void noPrivateMethodHasAPublicName(Checks checks, Class<?> face) {
        List<String> open = new ArrayList<>();
        for (Method method : face.getMethods()) {
            open.add(method.getName());
        }
        List<Class<?>> classes = new ArrayList<>(Arrays.asList(face.getDeclaredClasses()));
        classes.add(face);
        for (Class<?> one : classes) {
            for (Method method : one.getDeclaredMethods()) {
                checks.holds(method + " has a name of its own", Modifier.isPublic(method.getModifiers()) || !open.contains(method.getName()));
            }
        }
    }

    private static String sorted(List<String> all) {
        List<String> copy = new ArrayList<>(all);
        Collections.sort(copy);
        return String.join("\n  ", copy);
    }
}
