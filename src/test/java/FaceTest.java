import java.io.IOException;
import java.lang.reflect.Constructor;
import java.lang.reflect.Field;
import java.lang.reflect.Method;
import java.lang.reflect.Modifier;
import java.nio.file.Files;
import java.nio.file.Path;
import java.util.ArrayList;
import java.util.List;
import java.util.TreeSet;

/** The face of the class: what the document shows, and nothing else. */
public final class FaceTest {
    private static final Path DOCUMENT = Path.of("..", "shared", "DOC.md");
    private static final int METHODS = 27;

    public static void main(String[] args) throws IOException {
        methods();
        fields();
        constructors();
        classesInside();
        Check.end();
    }

    private static void methods() throws IOException {
        TreeSet<String> seen = new TreeSet<>();
        List<String> publicNames = new ArrayList<>();
        for (Method method : RemontoirClock.class.getDeclaredMethods()) {
            if (Modifier.isPublic(method.getModifiers())) {
                seen.add(line(method));
                publicNames.add(method.getName());
            }
        }
        TreeSet<String> due = methodsInDocument();
        Check.same("methods of the document", due.size(), METHODS);
        Check.isTrue("the methods are " + seen + ", due are " + due, seen.equals(due));
        for (Method method : RemontoirClock.class.getDeclaredMethods()) {
            boolean isPublic = Modifier.isPublic(method.getModifiers());
            Check.isTrue(method + " is public or private", isPublic || Modifier.isPrivate(method.getModifiers()));
            Check.isTrue(method + " bears its own name", isPublic || !publicNames.contains(method.getName()));
        }
    }

    /** The lines of the face that have an answer and parameters: "int wind(int weight, int turns) throws ..;". */
    private static TreeSet<String> methodsInDocument() throws IOException {
        TreeSet<String> due = new TreeSet<>();
        boolean inFace = false;
        for (String line : Files.readAllLines(DOCUMENT)) {
            inFace = line.startsWith("#") ? line.equals("## The public face") : inFace;
            String method = line.strip();
            if (inFace && method.matches("public \\w+ \\w+\\(.*;")) {
                due.add(method.replaceFirst("public ", "").replace(";", "").replace(" throws", "")
                        .replaceAll("int \\w+(?=[,)])", "int").replace(", ", ",").replaceAll("(?<=Exception),", " "));
            }
        }
        return due;
    }

    private static String line(Method method) {
        StringBuilder line = new StringBuilder(method.getReturnType().getSimpleName());
        line.append(' ').append(method.getName()).append('(');
        for (int i = 0; i < method.getParameterCount(); i++) {
            line.append(i > 0 ? "," : "").append(method.getParameterTypes()[i].getSimpleName());
        }
        line.append(')');
        for (Class<?> thrown : method.getExceptionTypes()) {
            line.append(' ').append(thrown.getSimpleName());
        }
        return line.toString();
    }

    private static void fields() throws IOException {
        String none = "    public static final int NONE = -1;";
        Check.isTrue("the document says" + none, Files.readAllLines(DOCUMENT).contains(none));
        for (Field field : RemontoirClock.class.getDeclaredFields()) {
            boolean isNone = field.getName().equals("NONE");
            Check.isTrue(field + " is private, but for NONE", isNone || Modifier.isPrivate(field.getModifiers()));
            Check.isTrue(field + " is final", Modifier.isFinal(field.getModifiers()));
            Check.isTrue(field + " is as told", !isNone
                    || field.toString().equals("public static final int RemontoirClock.NONE"));
        }
    }

    private static void constructors() {
        Constructor<?>[] constructors = RemontoirClock.class.getDeclaredConstructors();
        Check.same("constructors", constructors.length, 1);
        Check.isTrue("it is public", Modifier.isPublic(constructors[0].getModifiers()));
        Check.same("without parameters", constructors[0].getParameterCount(), 0);
        Check.isTrue("the class is final", Modifier.isFinal(RemontoirClock.class.getModifiers()));
    }

    private static void classesInside() {
        Class<?>[] inside = RemontoirClock.class.getDeclaredClasses();
        Check.isTrue("some twelve classes at most", inside.length <= 11);
        for (Class<?> one : inside) {
            Check.isTrue(one + " is private and static", Modifier.isPrivate(one.getModifiers())
                    && Modifier.isStatic(one.getModifiers()));
        }
    }
}
