import java.io.ByteArrayOutputStream;
import java.io.File;
import java.io.IOException;
import java.io.PrintStream;
import java.lang.reflect.Method;
import java.lang.reflect.Modifier;
import java.net.URL;
import java.net.URLClassLoader;
import java.nio.file.Files;
import java.nio.file.Path;
import javax.tools.JavaCompiler;
import javax.tools.ToolProvider;

/** README.md: its example answers what stands below it, and it leaves out no call and no test. */
public final class ReadmeTest {
    private static final Check C = new Check("ReadmeTest");
    private static final Path README = Path.of("README.md");
    private static final Path TESTS = Path.of("src/test/java");

    public static void main(String[] args) throws IOException, ReflectiveOperationException {
        String readme = Files.readString(README);
        theExample(block(readme, "java"), block(readme, "text"));
        allCalls(readme);
        allTests(readme);
        C.finish();
    }

    /** The first block of such a kind; nothing where there is none. */
    private static String block(String readme, String kind) {
        String opening = "```" + kind + "\n";
        int from = readme.indexOf(opening);
        int to = readme.indexOf("\n```", from + opening.length());
        C.due("a block of " + kind, from >= 0 && to > from, true);
        return from >= 0 && to > from ? readme.substring(from + opening.length(), to) : "";
    }

    private static void theExample(String program, String due) throws IOException, ReflectiveOperationException {
        Path room = Files.createTempDirectory("readme");
        Path source = room.resolve("Example.java");
        Files.writeString(source, program);
        JavaCompiler compiler = ToolProvider.getSystemJavaCompiler();
        int faults = compiler.run(null, null, null, "-Xlint:all", "-Werror", "-cp", System.getProperty("java.class.path"),
                "-d", room.toString(), source.toString());
        C.due("faults of the example", faults, 0);
        if (faults == 0) {
            sameLines(printed(room).split("\n"), due.split("\n"));
        }
        for (File file : room.toFile().listFiles()) {
            C.due("taken away: " + file, file.delete(), true);
        }
        C.due("taken away: " + room, room.toFile().delete(), true);
    }

    private static String printed(Path room) throws IOException, ReflectiveOperationException {
        PrintStream screen = System.out;
        ByteArrayOutputStream bytes = new ByteArrayOutputStream();
        try (URLClassLoader loader = new URLClassLoader(new URL[] {room.toUri().toURL()})) {
            Method main = loader.loadClass("Example").getMethod("main", String[].class);
            System.setOut(new PrintStream(bytes, true));
            main.invoke(null, (Object) new String[0]);
        } finally {
            System.setOut(screen);
        }
        return bytes.toString().replace("\r", "");
    }

    private static void sameLines(String[] got, String[] want) {
        C.due("lines of the example", got.length, want.length);
        for (int i = 0; i < Math.min(got.length, want.length); i++) {
            C.due("the example prints '" + got[i] + "', README.md says '" + want[i] + "'", got[i].equals(want[i]), true);
        }
    }

    private static void allCalls(String readme) {
        for (Method m : KneeBench.class.getDeclaredMethods()) {
            if (Modifier.isPublic(m.getModifiers())) {
                C.due("README.md names " + m.getName() + "()", readme.contains("`" + m.getName() + "()`"), true);
            }
        }
    }

    private static void allTests(String readme) {
        for (File file : TESTS.toFile().listFiles()) {
            String name = file.getName().replace(".java", "");
            if (name.endsWith("Test")) {
                C.due("README.md names " + name, readme.contains("`" + name + "`"), true);
            }
        }
    }
}
