import java.lang.reflect.Constructor;
import java.lang.reflect.Field;
import java.lang.reflect.Method;
import java.lang.reflect.Modifier;
import java.util.Set;
import java.util.TreeSet;

/** The face: just what the document lists is public, and nothing else can be reached. */
public final class FaceTest {
    private static final String INDEX = "IndexOutOfBoundsException";
    private static final String ARGUMENT = "IllegalArgumentException";
    private static final String STATE = "IllegalStateException";

    private static final String[] METHODS = {
        "int addKey(int,int,int,int) " + INDEX + " " + ARGUMENT + " " + STATE,
        "int removeKey(int,int) " + INDEX + " " + STATE,
        "int setKey(int,int,int,int) " + INDEX + " " + ARGUMENT + " " + STATE,
        "int moveKey(int,int,int) " + INDEX + " " + ARGUMENT + " " + STATE,
        "int setTangent(int,int,int,int) " + INDEX + " " + ARGUMENT + " " + STATE,
        "int lock(int,int,boolean) " + INDEX,
        "int stretch(int,int,int,int) " + INDEX + " " + ARGUMENT + " " + STATE,
        "int copy(int,int,int) " + INDEX + " " + ARGUMENT + " " + STATE,
        "int reduce(int,int) " + INDEX + " " + ARGUMENT,
        "int key(int,int,int) " + INDEX + " " + ARGUMENT,
        "int value(int,int) " + INDEX + " " + ARGUMENT,
        "long sum(int,int,int) " + INDEX + " " + ARGUMENT,
        "int extreme(int,int,int,int) " + INDEX + " " + ARGUMENT,
        "int crossings(int,int) " + INDEX + " " + ARGUMENT,
        "int difference(int,int) " + INDEX,
        "double mean(int) " + INDEX,
        "int error(int,int) " + INDEX,
        "int greatestStretch(int,int,int) " + INDEX + " " + ARGUMENT,
        "int leastEase(int,int) " + INDEX,
        "int append(int) " + ARGUMENT + " " + STATE,
        "int clearText()",
        "int parse(int) " + INDEX + " " + STATE,
        "int undo() " + STATE,
        "long digest()"};

    private static final Due due = new Due();

    public static void main(String[] args) {
        Class<?> face = EaseCurves.class;
        check("the class is public and final", face.getModifiers(),
                Modifier.PUBLIC | Modifier.FINAL);
        methods(face);
        Constructor<?>[] constructors = face.getDeclaredConstructors();
        due.same("constructors", constructors.length, 1);
        check("the constructor", constructors[0].getModifiers(), Modifier.PUBLIC);
        due.same("its parameters", constructors[0].getParameterCount(), 0);
        fields(face);
        for (Class<?> inside : face.getDeclaredClasses()) {
            check(inside + " is static", inside.getModifiers() & Modifier.STATIC, Modifier.STATIC);
            check(inside + " is hidden", inside.getModifiers()
                    & (Modifier.PUBLIC | Modifier.PROTECTED), 0);
        }
        due.end();
    }

    private static void check(String what, int got, int want) {
        due.same(what, got, want);
    }

    private static void methods(Class<?> face) {
        Set<String> wanted = new TreeSet<>(Set.of(METHODS));
        Set<String> names = new TreeSet<>();
        for (Method m : face.getDeclaredMethods()) {
            if (Modifier.isPublic(m.getModifiers())) {
                names.add(m.getName());
                if (!wanted.remove(signature(m))) {
                    due.miss("not of the face: " + signature(m));
                }
                check(m + " is of objects", m.getModifiers() & Modifier.STATIC, 0);
            }
        }
        for (String missing : wanted) {
            due.miss("missing: " + missing);
        }
        for (Method m : face.getDeclaredMethods()) {
            if (!Modifier.isPublic(m.getModifiers())) {
                check(m + " is private", m.getModifiers() & Modifier.PRIVATE, Modifier.PRIVATE);
                check(m + " has a name of its own", names.contains(m.getName()) ? 1 : 0, 0);
            }
        }
        for (Class<?> inside : face.getDeclaredClasses()) {
            for (Method m : inside.getDeclaredMethods()) {
                check(m + " has a name of its own", names.contains(m.getName()) ? 1 : 0, 0);
            }
        }
    }

    private static String signature(Method m) {
        StringBuilder text = new StringBuilder(m.getReturnType() + " " + m.getName() + "(");
        for (Class<?> type : m.getParameterTypes()) {
            text.append(text.charAt(text.length() - 1) == '(' ? "" : ",").append(type);
        }
        text.append(")");
        for (Class<?> type : m.getExceptionTypes()) {
            text.append(" ").append(type.getSimpleName());
        }
        return text.toString();
    }

    private static void fields(Class<?> face) {
        for (Field f : face.getDeclaredFields()) {
            boolean constant = f.getName().equals("NONE");
            check(f + " is public or private", f.getModifiers()
                    & (Modifier.PUBLIC | Modifier.PRIVATE | Modifier.PROTECTED),
                    constant ? Modifier.PUBLIC : Modifier.PRIVATE);
            if (Modifier.isStatic(f.getModifiers())) {
                check(f + " is final", f.getModifiers() & Modifier.FINAL, Modifier.FINAL);
            }
        }
    }
}
