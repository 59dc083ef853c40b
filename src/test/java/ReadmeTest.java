import java.io.ByteArrayOutputStream;
import java.io.IOException;
import java.io.PrintStream;
import java.lang.reflect.Method;
import java.lang.reflect.Modifier;
import java.net.URL;
import java.net.URLClassLoader;
import java.nio.file.Files;
import java.nio.file.Path;
import javax.tools.ToolProvider;

/** What README.md says of the use of the class: its program, what that prints, and the table of the calls. */
public final class ReadmeTest {
    private static final String NAME = "YourProgram";

    public static void main(String[] args) throws IOException, ReflectiveOperationException {
        String readme = Files.readString(Path.of("README.md"));
        programPrintsWhatIsTold(readme);
        noCallIsLeftOut(readme);
        Check.end();
    }

    /** The first block of this kind. */
    private static String block(String readme, String kind) {
        String fence = "```" + kind + "\n";
        int from = readme.indexOf(fence);
        int to = from < 0 ? -1 : readme.indexOf("```", from + fence.length());
        Check.isTrue("a block of " + kind, to >= 0);
        return to < 0 ? "" : readme.substring(from + fence.length(), to);
    }

    private static void programPrintsWhatIsTold(String readme) throws IOException, ReflectiveOperationException {
        Path place = Files.createTempDirectory(NAME);
        Path source = place.resolve(NAME + ".java");
        Path compiled = place.resolve(NAME + ".class");
        try {
            Files.writeString(source, block(readme, "java"));
            int wrong = ToolProvider.getSystemJavaCompiler().run(null, null, null, "-d", place.toString(),
                    "-cp", System.getProperty("java.class.path"), source.toString());
            Check.same("javac", wrong, 0);
            if (wrong == 0) {
                String printed = printedBy(place);
                Check.isTrue("it prints: " + printed, printed.equals(block(readme, "text")));
            }
        } finally {
            Files.deleteIfExists(source);
            Files.deleteIfExists(compiled);
            Files.deleteIfExists(place);
        }
    }

    private static String printedBy(Path place) throws IOException, ReflectiveOperationException {
        PrintStream screen = System.out;
        ByteArrayOutputStream printed = new ByteArrayOutputStream();
        try (URLClassLoader loader = new URLClassLoader(new URL[] {place.toUri().toURL()})) {
            Method main = loader.loadClass(NAME).getMethod("main", String[].class);
            System.setOut(new PrintStream(printed));
            main.invoke(null, (Object) new String[0]);
        } finally {
            System.out.flush();
            System.setOut(screen);
        }
        return printed.toString().replace(System.lineSeparator(), "\n");
    }

    private static void noCallIsLeftOut(String readme) {
        int from = readme.indexOf("| calls |");
        int to = from < 0 ? -1 : readme.indexOf("\n\n", from);
        String table = to < 0 ? "" : readme.substring(from, to);
        for (Method method : RemontoirClock.class.getDeclaredMethods()) {
            if (Modifier.isPublic(method.getModifiers())) {
                Check.isTrue(method.getName() + " is in the table", table.contains("`" + method.getName() + "`"));
            }
        }
    }
}
