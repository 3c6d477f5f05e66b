import java.lang.reflect.Constructor;
import java.lang.reflect.Field;
import java.lang.reflect.Method;
import java.lang.reflect.Modifier;
import java.util.ArrayList;
import java.util.Arrays;
import java.util.HashSet;
import java.util.List;
import java.util.Set;
import java.util.TreeSet;

/** "The public face", with what each call may throw and in which order, and no member beside it. */
public final class CertificateSumsFace extends Checks {
    private static final String INDEX = "java.lang.IndexOutOfBoundsException";
    private static final String ARITHMETIC = "java.lang.ArithmeticException";
    private static final String ARGUMENT = "java.lang.IllegalArgumentException";
    private static final String STATE = "java.lang.IllegalStateException";

    public static void main(String[] args) {
        theClass();
        theConstructor();
        theMethods();
        nothingElse();
        classesInside();
        staticFields();
        sizes();
        finish();
    }

    private static void theClass() {
        due("the class", () -> Modifier.toString(CertificateSums.class.getModifiers()), "public final");
        due("no package", () -> CertificateSums.class.getPackageName(), "");
        due("no class above it", () -> CertificateSums.class.getSuperclass() == Object.class, true);
        due("no interface", () -> CertificateSums.class.getInterfaces().length, 0);
    }

    private static void theConstructor() {
        Constructor<?>[] makers = CertificateSums.class.getDeclaredConstructors();
        due("constructors", () -> Arrays.toString(makers), "[public CertificateSums()]");
    }

    private static String method(String type, String nameAndParameters, String... exceptions) {
        return "public " + type + " CertificateSums." + nameAndParameters
                + (exceptions.length == 0 ? "" : " throws " + String.join(",", exceptions));
    }

    private static void theMethods() {
        TreeSet<String> want = new TreeSet<>(List.of(
                method("boolean", "ratio(boolean,int,long)", ARGUMENT),
                method("int", "number(long)", STATE),
                method("int", "letter()", STATE),
                method("int", "add(int,int)", INDEX, STATE),
                method("int", "times(int,int)", INDEX, STATE),
                method("int", "over(int,int)", INDEX, ARITHMETIC, STATE),
                method("int", "moved(int)", INDEX, STATE),
                method("int", "step(int)", INDEX, ARITHMETIC, STATE),
                method("boolean", "proves(int,int)", INDEX, ARITHMETIC),
                method("int", "find(int,int,int)", INDEX, ARITHMETIC, ARGUMENT, STATE),
                method("int", "least(int,int)", INDEX, ARITHMETIC),
                method("int", "free(int,int)", INDEX, ARITHMETIC, ARGUMENT),
                method("int", "degree(int,boolean)", INDEX),
                method("int", "at(int,boolean,int)", INDEX),
                method("int", "value(int,long)", INDEX),
                method("boolean", "same(int,int)", INDEX),
                method("int", "count()")));
        TreeSet<String> got = new TreeSet<>();
        for (Method m : CertificateSums.class.getDeclaredMethods()) {
            if (!Modifier.isPrivate(m.getModifiers())) {
                got.add(m.toString());
            }
        }
        for (String line : want) {
            due("the face has " + line, () -> got.contains(line), true);
        }
        due("and no other method", () -> got.size(), want.size());
    }

    private static void nothingElse() {
        Set<String> open = new HashSet<>();
        for (Method m : CertificateSums.class.getDeclaredMethods()) {
            if (!Modifier.isPrivate(m.getModifiers())) {
                open.add(m.getName());
            }
        }
        for (Method m : CertificateSums.class.getDeclaredMethods()) {
            if (Modifier.isPrivate(m.getModifiers())) {
                due("a private name that is not public too: " + m, () -> open.contains(m.getName()), false);
            }
        }
        for (Field f : CertificateSums.class.getDeclaredFields()) {
            due("a private field: " + f, () -> Modifier.isPrivate(f.getModifiers()), true);
        }
    }

    private static List<Class<?>> all() {
        List<Class<?>> all = new ArrayList<>(List.of(CertificateSums.class.getDeclaredClasses()));
        all.add(CertificateSums.class);
        return all;
    }

    private static void classesInside() {
        for (Class<?> inside : CertificateSums.class.getDeclaredClasses()) {
            int marks = inside.getModifiers();
            due("static: " + inside, () -> Modifier.isStatic(marks), true);
            due("not public: " + inside, () -> Modifier.isPublic(marks) || Modifier.isProtected(marks), false);
        }
    }

    /** What is static is a constant, so that no object can learn anything from another. */
    private static void staticFields() {
        for (Class<?> c : all()) {
            for (Field f : c.getDeclaredFields()) {
                if (Modifier.isStatic(f.getModifiers())) {
                    due("a constant: " + f, () -> Modifier.isFinal(f.getModifiers())
                            && f.getType().isPrimitive(), true);
                }
            }
        }
    }

    private static void sizes() {
        due("at most twelve classes", () -> all().size() <= 12, true);
        for (Class<?> c : all()) {
            int fields = 0;
            for (Field f : c.getDeclaredFields()) {
                fields += Modifier.isStatic(f.getModifiers()) ? 0 : 1;
            }
            int few = fields;
            due("at most twenty fields in " + c, () -> few <= 20, true);
            for (Method m : c.getDeclaredMethods()) {
                due("at most seven parameters: " + m, () -> m.getParameterCount() <= 7, true);
            }
        }
    }
}
