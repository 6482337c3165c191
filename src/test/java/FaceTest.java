import java.lang.reflect.Constructor;
import java.lang.reflect.Field;
import java.lang.reflect.Member;
import java.lang.reflect.Method;
import java.lang.reflect.Modifier;
import java.util.Arrays;
import java.util.List;
import java.util.Set;
import java.util.TreeSet;

/** The public face: just the members of the document, with their types and exceptions. */
final class FaceTest {
    private static final String A = "IllegalArgumentException";
    private static final String I = "IndexOutOfBoundsException";
    private static final String S = "IllegalStateException";

    private static final List<String> METHODS = List.of(
            "int addWork(int,int,int) " + A + " " + S,
            "int work(int,int) " + I + " " + A,
            "int addEntrant() " + S,
            "boolean bar(int,int,boolean) " + I,
            "int set(int,int) " + A + " " + S,
            "int setRule(int,int,int) " + I + " " + A + " " + S,
            "int rule(int,int) " + I + " " + A,
            "int setProgram(int,int) " + I + " " + A,
            "int clearProgram(int,int) " + I,
            "int program(int,int,int) " + I,
            "int flaw(int,int) " + I,
            "int begin(int) " + A + " " + S,
            "int play(int) " + A + " " + S,
            "int mark(int,int,int) " + I + " " + A + " " + S,
            "int abstain(int,int) " + I + " " + S,
            "int close() " + S,
            "int withdraw(int) " + I + " " + S,
            "int info(int) " + A,
            "int entrant(int,int) " + I + " " + A,
            "int marked(int,int,boolean) " + I,
            "int history(int,int) " + I,
            "int stage(int)",
            "int wouldBe(int) " + A,
            "int neededMark(int,int,int) " + I + " " + A + " " + S,
            "int strangestJuror()",
            "int type(int) " + A + " " + S,
            "int clearText()",
            "int fault()",
            "int undo() " + S,
            "long checksum()");

    public static void main(String[] args) {
        Class<?> c = PianoRounds.class;
        Check.due("public and final", c.getModifiers() & (Modifier.PUBLIC | Modifier.FINAL),
                Modifier.PUBLIC | Modifier.FINAL);
        Set<String> got = new TreeSet<>();
        for (Method m : c.getDeclaredMethods()) {
            if (isSeen(m)) {
                got.add(described(m));
            }
        }
        compare("methods", got, new TreeSet<>(METHODS));
        Set<String> fields = new TreeSet<>();
        for (Field f : c.getDeclaredFields()) {
            if (isSeen(f)) {
                fields.add(Modifier.toString(f.getModifiers()) + " " + f.getType() + " " + f.getName());
            }
        }
        compare("fields", fields, new TreeSet<>(Set.of("public static final int NONE")));
        Constructor<?>[] made = c.getDeclaredConstructors();
        Check.due("constructors", made.length, 1);
        Check.due("parameters of the constructor", made[0].getParameterCount(), 0);
        Check.due("the constructor is public", made[0].getModifiers(), Modifier.PUBLIC);
        noPrivateMethodBearsAPublicName(c);
        Check.end();
    }

    private static boolean isSeen(Member m) {
        return !Modifier.isPrivate(m.getModifiers()) && !m.isSynthetic();
    }

    private static String described(Method m) {
        StringBuilder all = new StringBuilder();
        all.append(m.getReturnType()).append(' ').append(m.getName()).append('(');
        all.append(String.join(",", Arrays.stream(m.getParameterTypes()).map(Class::toString).toList()));
        all.append(')');
        for (Class<?> e : m.getExceptionTypes()) {
            all.append(' ').append(e.getSimpleName());
        }
        return all.toString();
    }

    private static void compare(String what, Set<String> got, Set<String> due) {
        if (!got.equals(due)) {
            Check.fail(what + " are " + got + ", due are " + due);
        }
    }

    private static void noPrivateMethodBearsAPublicName(Class<?> c) {
        Set<String> names = new TreeSet<>();
        for (Method m : c.getMethods()) {
            names.add(m.getName());
        }
        List<Class<?>> classes = new java.util.ArrayList<>(List.of(c.getDeclaredClasses()));
        classes.add(c);
        for (Class<?> each : classes) {
            for (Method m : each.getDeclaredMethods()) {
                boolean isPublicOne = each == c && Modifier.isPublic(m.getModifiers());
                if (!isPublicOne && names.contains(m.getName())) {
                    Check.fail(each + " has a method " + m.getName());
                }
            }
        }
    }
}
