import java.lang.reflect.Constructor;
import java.lang.reflect.Field;
import java.lang.reflect.Member;
import java.lang.reflect.Method;
import java.lang.reflect.Modifier;
import java.util.ArrayList;
import java.util.List;
import java.util.Set;
import java.util.TreeSet;

/** The public face, member by member, and that nothing else of the class can be seen from outside. */
public final class FaceTest {
    private static final String I = "IndexOutOfBoundsException";
    private static final String A = "IllegalArgumentException";
    private static final String S = "IllegalStateException";

    private static final String[] FACE = {
        "int child(int, int, int, int, int) " + A + " " + S,
        "int home(int, int, int) " + A + " " + S,
        "void approve(int, int, int, int) " + I + " " + A,
        "void train(int, int, int) " + I + " " + A,
        "void rest(int, int, int) " + I + " " + A,
        "int report(int, int, int) " + I + " " + A + " " + S,
        "boolean see(int) " + I,
        "int risk(int) " + I,
        "int seeBy(int) " + I,
        "int order(int, int, int, int) " + I + " " + A + " " + S,
        "int counts(int, int) " + I + " " + A,
        "void wish(int, int, boolean) " + I,
        "int why(int, int) " + I,
        "int worth(int, int) " + I,
        "int best(int) " + I,
        "int place(int, int) " + I + " " + S,
        "int placeAll(int) " + A + " " + S,
        "int visits(int, int) " + I + " " + A,
        "void came(int) " + I + " " + S,
        "int pay(int, int) " + I + " " + A,
        "int owed(int) " + I,
        "int handOver(int, int) " + I,
        "int load(int) " + I,
        "int pass(int) " + A + " " + S,
        "int childIs(int, int) " + I + " " + A,
        "int stay(int, int) " + I + " " + A,
        "boolean wasAllowed(int) " + I,
        "boolean blacken(int, boolean) " + I,
        "int file(int, int) " + I + " " + S,
    };

    private static final String[] CONSTANTS = {"NONE", "BLACK", "CARE", "HOME", "STAY"};

    private static int wrong = 0;

    private static void check(boolean is, String what) {
        if (!is) {
            wrong++;
            System.out.println(what);
        }
    }

    private static boolean isOwnBusiness(Member m) {
        return Modifier.isPrivate(m.getModifiers()) || m.isSynthetic();
    }

    private static String told(Method m) {
        List<String> parameters = new ArrayList<>();
        for (Class<?> c : m.getParameterTypes()) parameters.add(c.getSimpleName());
        StringBuilder s = new StringBuilder(m.getReturnType().getSimpleName() + " " + m.getName());
        s.append('(').append(String.join(", ", parameters)).append(')');
        for (Class<?> c : m.getExceptionTypes()) s.append(' ').append(c.getSimpleName());
        return s.toString();
    }

    public static void main(String[] args) {
        Class<FosterHouse> face = FosterHouse.class;
        check(Modifier.isPublic(face.getModifiers()) && Modifier.isFinal(face.getModifiers()), "it is not public and final");
        check(face.getSuperclass() == Object.class && face.getInterfaces().length == 0, "it is of another class");
        Set<String> due = new TreeSet<>(List.of(FACE));
        Set<String> names = new TreeSet<>();
        for (Method m : face.getDeclaredMethods()) {
            if (isOwnBusiness(m)) continue;
            check(m.getModifiers() == Modifier.PUBLIC, "not just public: " + told(m));
            check(due.remove(told(m)), "not of the face: " + told(m));
            names.add(m.getName());
        }
        for (String left : due) check(false, "missing: " + left);
        for (Method m : face.getDeclaredMethods()) {
            check(!isOwnBusiness(m) || !names.contains(m.getName()), "private, but of a public name: " + told(m));
        }
        for (Constructor<?> c : face.getDeclaredConstructors()) {
            check(c.getModifiers() == Modifier.PUBLIC && c.getParameterCount() == 0, "not of the face: " + c);
        }
        Set<String> constants = new TreeSet<>(List.of(CONSTANTS));
        for (Field f : face.getDeclaredFields()) {
            boolean isConstant = Modifier.isStatic(f.getModifiers()) && Modifier.isFinal(f.getModifiers());
            check(!Modifier.isStatic(f.getModifiers()) || isConstant, "static, but not final: " + f);
            if (isOwnBusiness(f)) continue;
            check(isConstant && Modifier.isPublic(f.getModifiers()) && f.getType() == int.class, "no constant: " + f);
            check(constants.remove(f.getName()), "not of the face: " + f);
        }
        for (String left : constants) check(false, "missing: " + left);
        for (Class<?> c : face.getDeclaredClasses()) {
            check(Modifier.isStatic(c.getModifiers()) && !Modifier.isPublic(c.getModifiers())
                && !Modifier.isProtected(c.getModifiers()), "a class inside that is not private and static: " + c);
        }
        System.out.println(FACE.length + " methods, " + CONSTANTS.length + " constants, " + wrong + " wrong");
        if (wrong != 0) System.exit(1);
    }
}
