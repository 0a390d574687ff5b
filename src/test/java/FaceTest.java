import java.lang.reflect.Constructor;
import java.lang.reflect.Field;
import java.lang.reflect.Method;
import java.lang.reflect.Modifier;
import java.util.Arrays;
import java.util.Set;
import java.util.TreeSet;

/** The public face: what the document names, and nothing else. */
public final class FaceTest {
    private static final Bench BENCH = new Bench();
    private static final String[] METHODS = {"int word(char)", "int name(int)", "int number(int)", "char enter()",
        "int error()", "int trace()", "int traceAt(int)", "int depth()", "int at(int)", "int second()", "int here()",
        "int cell(int)", "int outs()", "int outAt(int)", "int entries()", "int nameOf(int)", "char kindOf(int)",
        "boolean isImmediate(int)", "int vocabularyOf(int)", "int find(int)", "int ops(int)", "char opAt(int,int)",
        "int opNumber(int,int)", "int effect(int)", "boolean isMaking()", "long steps()", "int lines()",
        "float errorShare()", "double meanSteps()", "boolean isSound()"};

    public static void main(String[] args) {
        methods();
        fields();
        insides();
        BENCH.close("FaceTest");
    }

    private static void methods() {
        Set<String> found = new TreeSet<>();
        for (Method method : WordFoundry.class.getDeclaredMethods()) {
            if (!Modifier.isPrivate(method.getModifiers())) {
                found.add(method.getReturnType().getName() + " " + method.getName()
                        + Arrays.toString(method.getParameterTypes()).replace('[', '(').replace(']', ')').replace(" ", ""));
                BENCH.same(method + " is public", Modifier.isPublic(method.getModifiers()), true);
            }
        }
        BENCH.same("the methods", found.toString(), new TreeSet<>(Arrays.asList(METHODS)).toString());
        Constructor<?>[] constructors = WordFoundry.class.getDeclaredConstructors();
        BENCH.same("constructors", constructors.length, 1);
        BENCH.same("parameters", constructors[0].getParameterCount(), 0);
        int modifiers = WordFoundry.class.getModifiers();
        BENCH.same("the class is public and final", Modifier.isPublic(modifiers) && Modifier.isFinal(modifiers), true);
    }

    private static void fields() {
        for (Field field : WordFoundry.class.getDeclaredFields()) {
            int modifiers = field.getModifiers();
            BENCH.same(field + " is private", Modifier.isPrivate(modifiers), true);
            BENCH.same(field + " is final if static", !Modifier.isStatic(modifiers) || Modifier.isFinal(modifiers), true);
        }
    }

    /** No method inside bears a public name, no class has too many fields, no method too many parameters. */
    private static void insides() {
        Set<String> names = new TreeSet<>();
        for (Method method : WordFoundry.class.getDeclaredMethods()) {
            if (Modifier.isPublic(method.getModifiers())) {
                names.add(method.getName());
            }
        }
        Class<?>[] classes = WordFoundry.class.getDeclaredClasses();
        BENCH.same("at most twelve classes", classes.length < 12, true);
        for (Class<?> inside : classes) {
            BENCH.same(inside + " is static", Modifier.isStatic(inside.getModifiers()), true);
            BENCH.same(inside + " is not public", Modifier.isPublic(inside.getModifiers()), false);
            BENCH.same("fields of " + inside, inside.getDeclaredFields().length <= 20, true);
            for (Method method : inside.getDeclaredMethods()) {
                BENCH.same(method + " has a name of its own", names.contains(method.getName()), false);
                BENCH.same(method + " has few parameters", method.getParameterCount() <= 7, true);
            }
        }
    }
}
