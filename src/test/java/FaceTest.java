import java.lang.reflect.Constructor;
import java.lang.reflect.Field;
import java.lang.reflect.Method;
import java.lang.reflect.Modifier;
import java.util.Arrays;
import java.util.List;
import java.util.Set;
import java.util.TreeSet;

/** The public face as the document tells it, and nothing besides (LANGUAGE.md, rules 1 and 5). */
public final class FaceTest {
    private static final List<String> FACE = List.of(
            "void define(int, int, int)", "int curve(int, int, int)", "boolean seal(int)",
            "void rack(int, int, int, int)", "int removeRack(int)", "void reagent(int, int, int, int)",
            "boolean forbid(int, int)", "int order(int, int, boolean)", "void clock(int)", "void light(int)",
            "void spoil(int)", "int step()", "int idle()", "int state(int, int)", "int cuvette(int, int)",
            "int volume(int, int)", "int trend(int, int)", "int rules(int)", "int host(int)", "int took(int)");

    private static final Check CHECK = new Check();

    public static void main(String[] args) {
        Class<?> face = SampleAnalyser.class;
        CHECK.due("public and final", face.getModifiers(), Modifier.PUBLIC | Modifier.FINAL);
        constructors(face);
        methods(face);
        fields(face);
        for (Class<?> inner : face.getDeclaredClasses()) {
            CHECK.due(inner + " is static", Modifier.isStatic(inner.getModifiers()), true);
            CHECK.due(inner + " is not public", Modifier.isPublic(inner.getModifiers()), false);
            fields(inner);
            noPublicNames(inner);
        }
        CHECK.end();
    }

    private static void constructors(Class<?> face) {
        Constructor<?>[] all = face.getDeclaredConstructors();
        CHECK.due("constructors", all.length, 1);
        CHECK.due("its parameters", all[0].getParameterCount(), 0);
        CHECK.due("it is public", Modifier.isPublic(all[0].getModifiers()), true);
    }

    private static void methods(Class<?> face) {
        Set<String> open = new TreeSet<>();
        Set<String> openNames = new TreeSet<>();
        for (Method method : face.getDeclaredMethods()) {
            if (!Modifier.isPrivate(method.getModifiers())) {
                open.add(signature(method));
                openNames.add(method.getName());
                CHECK.due(method + " is public", method.getModifiers(), Modifier.PUBLIC);
            }
        }
        CHECK.due("the face is " + open, open.equals(new TreeSet<>(FACE)), true);
        for (Method method : face.getDeclaredMethods()) {
            if (Modifier.isPrivate(method.getModifiers())) {
                CHECK.due(method + " bears a public name", openNames.contains(method.getName()), false);
            }
        }
    }

    private static void noPublicNames(Class<?> inner) {
        for (Method method : inner.getDeclaredMethods()) {
            for (String line : FACE) {
                CHECK.due(method + " bears a public name", line.contains(" " + method.getName() + "("), false);
            }
        }
    }

    private static void fields(Class<?> owner) {
        for (Field field : owner.getDeclaredFields()) {
            int modifiers = field.getModifiers();
            if (owner == SampleAnalyser.class) {
                CHECK.due(field + " is private", Modifier.isPrivate(modifiers), true);
            }
            if (Modifier.isStatic(modifiers)) {
                CHECK.due(field + " is final", Modifier.isFinal(modifiers), true);
            }
        }
    }

    private static String signature(Method method) {
        String parameters = Arrays.toString(method.getParameterTypes());
        return method.getReturnType() + " " + method.getName() + "("
                + parameters.substring(1, parameters.length() - 1) + ")";
    }
}
