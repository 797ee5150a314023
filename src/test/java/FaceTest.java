import java.lang.reflect.Constructor;
import java.lang.reflect.Field;
import java.lang.reflect.Method;
import java.lang.reflect.Modifier;
import java.util.Arrays;
import java.util.Set;
import java.util.TreeSet;

/** The public face is the document's, and nothing else of the class can be seen from outside. */
public final class FaceTest {
    private static int wrong = 0;

    private static final String STATE = " throws IllegalStateException";
    private static final String INDEX = " throws IndexOutOfBoundsException";
    private static final String AND_INDEX = ",IndexOutOfBoundsException";
    private static final String AND_ARGUMENT = ",IllegalArgumentException";

    private static final String[] METHODS = {
        "int place(int) throws IllegalArgumentException,IllegalStateException",
        "int transition()" + STATE,
        "int arc(int,int,int,boolean)" + INDEX + AND_ARGUMENT,
        "void tokens(int,int)" + INDEX + AND_ARGUMENT,
        "int explore() throws UnsupportedOperationException",
        "int count(int,int)" + STATE + AND_INDEX,
        "int node(int,int)" + STATE + AND_INDEX,
        "int bound(int)" + STATE + AND_INDEX,
        "void want(int,int)" + INDEX + AND_ARGUMENT,
        "boolean covered()" + STATE,
        "boolean possible(int)" + STATE + AND_INDEX,
        "int growth(int)" + STATE + AND_ARGUMENT,
        "int graph()" + STATE + ",UnsupportedOperationException",
        "int reached()" + STATE,
        "int distance(int)" + STATE + AND_INDEX,
        "int found(int,boolean)" + STATE + AND_INDEX,
        "int stops()" + STATE,
        "boolean live(int)" + STATE + AND_INDEX,
    };

    private static void check(String what, boolean right) {
        if (!right) {
            wrong++;
            System.out.println("wrong: " + what);
        }
    }

    private static String names(Class<?>[] classes) {
        StringBuilder names = new StringBuilder();
        for (Class<?> c : classes) {
            names.append(names.length() == 0 ? "" : ",").append(c.getSimpleName());
        }
        return names.toString();
    }

    private static void checkMethods() {
        Set<String> due = new TreeSet<>(Arrays.asList(METHODS));
        Set<String> publicNames = new TreeSet<>();
        Set<String> met = new TreeSet<>();
        for (Method m : CoverTrees.class.getDeclaredMethods()) {
            if (Modifier.isPublic(m.getModifiers())) {
                publicNames.add(m.getName());
                met.add(m.getReturnType().getSimpleName() + " " + m.getName()
                    + "(" + names(m.getParameterTypes()) + ") throws " + names(m.getExceptionTypes()));
            } else if (!m.isSynthetic()) {
                check("private " + m, Modifier.isPrivate(m.getModifiers()));
            }
        }
        check("methods are " + met + ", due are " + due, met.equals(due));
        for (Method m : CoverTrees.class.getDeclaredMethods()) {
            check("a private method bears a public name: " + m,
                Modifier.isPublic(m.getModifiers()) || !publicNames.contains(m.getName()));
        }
    }

    private static void checkFields() throws IllegalAccessException {
        int constants = 0;
        for (Field f : CoverTrees.class.getDeclaredFields()) {
            int modifiers = f.getModifiers();
            if (Modifier.isPublic(modifiers)) {
                constants++;
                check("constant " + f, Modifier.isStatic(modifiers) && Modifier.isFinal(modifiers)
                    && f.getType() == int.class);
                check("constant's name " + f, f.getName().equals("ENDLESS") && f.getInt(null) == -1
                    || f.getName().equals("NONE") && f.getInt(null) == -2);
            } else {
                check("private " + f, Modifier.isPrivate(modifiers));
                check("static and not final " + f, !Modifier.isStatic(modifiers) || Modifier.isFinal(modifiers));
            }
        }
        check("two constants", constants == 2);
    }

    private static void checkClass() {
        Class<?> c = CoverTrees.class;
        check("public and final", Modifier.isPublic(c.getModifiers()) && Modifier.isFinal(c.getModifiers()));
        check("no parent", c.getSuperclass() == Object.class && c.getInterfaces().length == 0);
        check("no package", c.getPackageName().isEmpty());
        Constructor<?>[] constructors = c.getDeclaredConstructors();
        check("one constructor", constructors.length == 1
            && Modifier.isPublic(constructors[0].getModifiers())
            && constructors[0].getParameterCount() == 0
            && constructors[0].getExceptionTypes().length == 0);
        for (Class<?> inner : c.getDeclaredClasses()) {
            check("inside: " + inner, Modifier.isStatic(inner.getModifiers())
                && !Modifier.isPublic(inner.getModifiers()) && !Modifier.isProtected(inner.getModifiers()));
        }
    }

    public static void main(String[] args) throws IllegalAccessException {
        checkClass();
        checkFields();
        checkMethods();
        System.out.println(wrong == 0 ? "the face is as due" : wrong + " things of the face are not as due");
        if (wrong != 0) {
            System.exit(1);
        }
    }
}
