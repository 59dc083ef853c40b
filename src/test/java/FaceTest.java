import java.lang.reflect.Constructor;
import java.lang.reflect.Field;
import java.lang.reflect.Method;
import java.lang.reflect.Modifier;
import java.util.ArrayList;
import java.util.Arrays;
import java.util.List;
import java.util.TreeSet;

/** The face of the class: what the document shows, and nothing else. */
public final class FaceTest {
    private static final String[] FACE = {
        "int append(int) IllegalArgumentException IllegalStateException",
        "int clearBuffer()",
        "int count(int) IllegalArgumentException",
        "int debt(int,int) IndexOutOfBoundsException IllegalArgumentException",
        "int dismiss(int) IndexOutOfBoundsException",
        "long digest()",
        "int downFirst()",
        "int firstError()",
        "int forgive()",
        "int hire(int,int,int) IndexOutOfBoundsException IllegalArgumentException IllegalStateException",
        "int ifPassed(int,int) IllegalArgumentException",
        "int leastTurns(int) IllegalArgumentException",
        "int load() IllegalArgumentException IllegalStateException",
        "double lostShare()",
        "int mend()",
        "int paidIn()",
        "int pass(int) IllegalArgumentException IllegalStateException",
        "int set(int,int) IndexOutOfBoundsException IllegalArgumentException",
        "int setHands(int) IllegalArgumentException",
        "int setSnow(int) IllegalArgumentException",
        "int setting(int) IndexOutOfBoundsException",
        "int standsIn()",
        "int undo() IllegalStateException",
        "int weight(int,int) IndexOutOfBoundsException IllegalArgumentException",
        "int why(int) IllegalArgumentException",
        "int wind(int,int) IndexOutOfBoundsException IllegalArgumentException",
        "int winder(int,int) IndexOutOfBoundsException IllegalArgumentException",
    };

    public static void main(String[] args) {
        methods();
        fields();
        constructors();
        classesInside();
        Check.end();
    }

    private static void methods() {
        TreeSet<String> seen = new TreeSet<>();
        List<String> publicNames = new ArrayList<>();
        for (Method method : RemontoirClock.class.getDeclaredMethods()) {
            if (Modifier.isPublic(method.getModifiers())) {
                seen.add(line(method));
                publicNames.add(method.getName());
            }
        }
        TreeSet<String> due = new TreeSet<>(Arrays.asList(FACE));
        Check.isTrue("the methods are " + seen, seen.equals(due));
        for (Method method : RemontoirClock.class.getDeclaredMethods()) {
            boolean isPublic = Modifier.isPublic(method.getModifiers());
            Check.isTrue(method + " is public or private", isPublic || Modifier.isPrivate(method.getModifiers()));
            Check.isTrue(method + " bears its own name", isPublic || !publicNames.contains(method.getName()));
        }
    }

    private static String line(Method method) {
        StringBuilder line = new StringBuilder(method.getReturnType().getSimpleName());
        line.append(' ').append(method.getName()).append('(');
        for (int i = 0; i < method.getParameterCount(); i++) {
            line.append(i > 0 ? "," : "").append(method.getParameterTypes()[i].getSimpleName());
        }
        line.append(')');
        for (Class<?> thrown : method.getExceptionTypes()) {
            line.append(' ').append(thrown.getSimpleName());
        }
        return line.toString();
    }

    private static void fields() {
        for (Field field : RemontoirClock.class.getDeclaredFields()) {
            boolean isNone = field.getName().equals("NONE");
            Check.isTrue(field + " is private, but for NONE", isNone || Modifier.isPrivate(field.getModifiers()));
            Check.isTrue(field + " is final", Modifier.isFinal(field.getModifiers()));
        }
    }

    private static void constructors() {
        Constructor<?>[] constructors = RemontoirClock.class.getDeclaredConstructors();
        Check.same("constructors", constructors.length, 1);
        Check.isTrue("it is public", Modifier.isPublic(constructors[0].getModifiers()));
        Check.same("without parameters", constructors[0].getParameterCount(), 0);
        Check.isTrue("the class is final", Modifier.isFinal(RemontoirClock.class.getModifiers()));
    }

    private static void classesInside() {
        Class<?>[] inside = RemontoirClock.class.getDeclaredClasses();
        Check.isTrue("some twelve classes at most", inside.length <= 11);
        for (Class<?> one : inside) {
            Check.isTrue(one + " is private and static", Modifier.isPrivate(one.getModifiers())
                    && Modifier.isStatic(one.getModifiers()));
        }
    }
}
