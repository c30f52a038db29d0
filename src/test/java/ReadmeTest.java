import java.io.ByteArrayOutputStream;
import java.io.PrintStream;
import java.lang.reflect.Method;
import java.lang.reflect.Modifier;
import java.net.URL;
import java.net.URLClassLoader;
import java.nio.charset.StandardCharsets;
import java.nio.file.Files;
import java.nio.file.Path;
import javax.tools.ToolProvider;

/** The example of README.md compiles and prints what stands there, and every method of the face is named in it. */
public final class ReadmeTest {
    public static void main(String[] args) throws Exception {
        String readme = Files.readString(Path.of("README.md"));
        String example = block(readme, "```java\n");
        String printed = block(readme, "It prints:\n\n```\n");
        String got = run(example);
        if (!got.equals(printed)) {
            Check.wrong("the example printed\n" + got + "README.md says\n" + printed);
        }
        Check.isTrue("the example asks something", got.length() > 0);
        namesEveryMethod(readme);
        Check.end();
    }

    private static String block(String readme, String beginning) {
        int from = readme.indexOf(beginning) + beginning.length();
        int to = readme.indexOf("```\n", from);
        if (!readme.contains(beginning) || to < 0) {
            throw new IllegalStateException("no block behind " + beginning);
        }
        return readme.substring(from, to);
    }

    private static String run(String example) throws Exception {
        Path folder = Files.createTempDirectory("readme");
        Path source = folder.resolve("Example.java");
        Path made = folder.resolve("Example.class");
        Files.writeString(source, example);
        int code = ToolProvider.getSystemJavaCompiler().run(null, null, null, "-cp", System.getProperty("java.class.path"), "-d",
            folder.toString(), source.toString());
        Check.same("compiling the example", code, 0);
        PrintStream screen = System.out;
        ByteArrayOutputStream bytes = new ByteArrayOutputStream();
        try (URLClassLoader loader = new URLClassLoader(new URL[] {folder.toUri().toURL()})) {
            Method main = loader.loadClass("Example").getMethod("main", String[].class);
            System.setOut(new PrintStream(bytes, true, StandardCharsets.UTF_8));
            main.invoke(null, (Object) new String[0]);
        } finally {
            System.setOut(screen);
            Files.deleteIfExists(made);
            Files.deleteIfExists(source);
            Files.deleteIfExists(folder);
        }
        return bytes.toString(StandardCharsets.UTF_8).replace(System.lineSeparator(), "\n");
    }

    private static void namesEveryMethod(String readme) {
        for (Method method : LatinRectangles.class.getDeclaredMethods()) {
            if (Modifier.isPublic(method.getModifiers())) {
                Check.isTrue("README.md names " + method.getName(), readme.contains("`" + method.getName() + "`"));
            }
        }
    }
}
