import java.lang.reflect.Constructor;
import java.lang.reflect.Field;
import java.lang.reflect.Method;
import java.lang.reflect.Modifier;
import java.util.Arrays;
import java.util.TreeSet;

/** The face of the class is the document's: these members with these exceptions, and no other one to be seen. */
public final class HotPanLocksFaceTest {
    private static final String I = "IndexOutOfBoundsException";
    private static final String A = "IllegalArgumentException";
    private static final String S = "IllegalStateException";
    private static final String[] METHODS = {
        "int ask(int,int,int) " + I + " " + A + " " + S,
        "int release(int,int) " + I + " " + S,
        "int giveUp(int) " + I + " " + S,
        "int handOn(int,int,int) " + I + " " + S,
        "int pass(int) " + A,
        "int cool(int) " + I + " " + S,
        "int set(int,int) " + I + " " + A,
        "int append(int) " + A + " " + S,
        "int clearBuffer()",
        "int firstError()",
        "int run() " + A,
        "int undo() " + S,
        "int lock(int,int) " + I,
        "int hand(int,int) " + I + " " + A,
        "int row(int,int) " + I + " " + A,
        "int request(int,int,int) " + I + " " + A,
        "int count(int) " + A,
        "int setting(int) " + I,
        "int ifAsked(int,int,int,int) " + I + " " + A,
        "int takers(int,int) " + I,
        "int burnsIn(int) " + I,
        "int waitsFor(int) " + I,
        "int busiest()",
        "double grantedShare()",
        "long digest()"};

    private static int wrong = 0;

    private static void holds(String what, boolean held) {
        if (!held) {
            wrong++;
            System.out.println(what);
        }
    }

    private static String names(Class<?>[] types, String between) {
        StringBuilder s = new StringBuilder();
        for (Class<?> type : types) {
            s.append(s.length() > 0 ? between : "").append(type.getSimpleName());
        }
        return s.toString();
    }

    private static String told(Method m) {
        String head = m.getReturnType().getSimpleName() + " " + m.getName() + "(" + names(m.getParameterTypes(), ",") + ") ";
        return (head + names(m.getExceptionTypes(), " ")).trim();
    }

    private static void methods() {
        TreeSet<String> due = new TreeSet<>(Arrays.asList(METHODS));
        TreeSet<String> found = new TreeSet<>();
        TreeSet<String> open = new TreeSet<>();
        for (Method m : HotPanLocks.class.getDeclaredMethods()) {
            if (Modifier.isPublic(m.getModifiers())) {
                found.add(told(m));
                open.add(m.getName());
                holds(m + " is static", !Modifier.isStatic(m.getModifiers()));
            }
        }
        holds("the public methods are " + found, found.equals(due));
        for (Method m : HotPanLocks.class.getDeclaredMethods()) {
            boolean hidden = Modifier.isPrivate(m.getModifiers());
            holds(m + " can be seen", hidden || Modifier.isPublic(m.getModifiers()) || m.isSynthetic());
            holds(m + " bears the name of a public one", !hidden || !open.contains(m.getName()));
        }
    }

    private static void fieldsAndTheRest() {
        int open = Modifier.PUBLIC | Modifier.STATIC | Modifier.FINAL;
        for (Field f : HotPanLocks.class.getDeclaredFields()) {
            boolean none = f.getName().equals("NONE") && f.getType() == int.class && f.getModifiers() == open;
            holds(f + " can be seen", none || Modifier.isPrivate(f.getModifiers()));
            holds(f + " is static and can change", !Modifier.isStatic(f.getModifiers()) || Modifier.isFinal(f.getModifiers()));
        }
        Constructor<?>[] made = HotPanLocks.class.getDeclaredConstructors();
        holds("one public constructor without parameters",
                made.length == 1 && made[0].getParameterCount() == 0 && Modifier.isPublic(made[0].getModifiers()));
        holds("the class is public and final",
                HotPanLocks.class.getModifiers() == (Modifier.PUBLIC | Modifier.FINAL));
        holds("the class stands in no package", HotPanLocks.class.getPackageName().isEmpty());
        for (Class<?> inside : HotPanLocks.class.getDeclaredClasses()) {
            holds(inside + " is not static and hidden", Modifier.isStatic(inside.getModifiers())
                    && !Modifier.isPublic(inside.getModifiers()) && !Modifier.isProtected(inside.getModifiers()));
        }
    }

    public static void main(String[] args) {
        methods();
        fieldsAndTheRest();
        System.out.println(wrong == 0 ? "the face is the document's" : wrong + " faults of the face");
        if (wrong != 0) {
            System.exit(1);
        }
    }
}
