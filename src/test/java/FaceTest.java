import java.lang.reflect.Constructor;
import java.lang.reflect.Field;
import java.lang.reflect.Method;
import java.lang.reflect.Modifier;
import java.util.Arrays;
import java.util.Set;
import java.util.TreeSet;

/** The public face, to the letter, and rule 1 of LANGUAGE.md: nothing else can be seen. */
public final class FaceTest {
    private static final Check C = new Check("FaceTest");
    private static final String ARGUMENT = "IllegalArgumentException";
    private static final String STATE = "IllegalStateException";
    private static final String BOUNDS = "IndexOutOfBoundsException";

    private static final String[] METHODS = {
        "int program(int, long, int)",
        "boolean table(int, int, int)",
        "int launch(int, int, int) throws " + ARGUMENT + ", " + STATE,
        "int step(int, int) throws " + ARGUMENT + ", " + STATE,
        "int tick(int) throws " + ARGUMENT + ", " + STATE,
        "int checkpoint(int) throws " + ARGUMENT + ", " + STATE,
        "int write(int, int) throws " + ARGUMENT + ", " + STATE,
        "boolean crash(int) throws " + ARGUMENT,
        "boolean start(int) throws " + ARGUMENT,
        "int net(int, int) throws " + ARGUMENT + ", " + BOUNDS + ", " + STATE,
        "int message(int, int)",
        "int slot(int, int)",
        "int agent(int, int, int)",
        "int host(int, int)",
        "int sealed(int)",
        "int outputs(int)",
        "long output(int, int)",
        "int expected(int)",
        "long expectedOutput(int, int)",
    };

    public static void main(String[] args) {
        C.same("public and final", AgentNet.class.getModifiers(), Modifier.PUBLIC | Modifier.FINAL);
        Set<String> due = new TreeSet<>(Arrays.asList(METHODS));
        Set<String> got = new TreeSet<>();
        Set<String> publicNames = new TreeSet<>();
        for (Method m : AgentNet.class.getDeclaredMethods()) {
            if (!Modifier.isPrivate(m.getModifiers())) {
                C.same(m.getName() + " is public, no more", m.getModifiers(), Modifier.PUBLIC);
                got.add(told(m));
                publicNames.add(m.getName());
            }
        }
        if (!got.equals(due)) {
            C.report("the methods are " + got + ", due is " + due);
        }
        constantsAndConstructors();
        for (Class<?> inside : AgentNet.class.getDeclaredClasses()) {
            C.same(inside + " is static", Modifier.isStatic(inside.getModifiers()), true);
            C.same(inside + " is not public", Modifier.isPublic(inside.getModifiers()), false);
            C.same(inside + " is not protected", Modifier.isProtected(inside.getModifiers()), false);
        }
        privateNamesAreOthers(AgentNet.class, publicNames);
        for (Class<?> inside : AgentNet.class.getDeclaredClasses()) {
            privateNamesAreOthers(inside, publicNames);
        }
        C.finish();
    }

    private static void constantsAndConstructors() {
        for (Field f : AgentNet.class.getDeclaredFields()) {
            boolean isNone = f.getName().equals("NONE");
            C.same(f.getName() + " is private", Modifier.isPrivate(f.getModifiers()), !isNone);
            if (isNone) {
                C.same("NONE", f.getModifiers(), Modifier.PUBLIC | Modifier.STATIC | Modifier.FINAL);
            }
        }
        Constructor<?>[] all = AgentNet.class.getDeclaredConstructors();
        C.same("one constructor", all.length, 1);
        C.same("it is public", all[0].getModifiers(), Modifier.PUBLIC);
        C.same("it takes nothing", all[0].getParameterCount(), 0);
    }

    private static void privateNamesAreOthers(Class<?> where, Set<String> publicNames) {
        for (Method m : where.getDeclaredMethods()) {
            if (where != AgentNet.class || Modifier.isPrivate(m.getModifiers())) {
                C.same(where.getSimpleName() + "." + m.getName() + " has a name of the face",
                    publicNames.contains(m.getName()), false);
            }
        }
    }

    private static String told(Method m) {
        StringBuilder text = new StringBuilder(m.getReturnType().getSimpleName()).append(' ').append(m.getName());
        text.append(names(m.getParameterTypes(), '(', ')'));
        if (m.getExceptionTypes().length > 0) {
            text.append(" throws").append(names(m.getExceptionTypes(), ' ', ' '));
        }
        return text.toString().trim();
    }

    private static String names(Class<?>[] types, char open, char close) {
        StringBuilder text = new StringBuilder().append(open);
        for (int i = 0; i < types.length; i++) {
            text.append(i == 0 ? "" : ", ").append(types[i].getSimpleName());
        }
        return text.append(close).toString();
    }
}
