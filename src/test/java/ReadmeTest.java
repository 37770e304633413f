import java.io.IOException;
import java.lang.reflect.Field;
import java.lang.reflect.InvocationTargetException;
import java.lang.reflect.Method;
import java.lang.reflect.Modifier;
import java.net.URL;
import java.net.URLClassLoader;
import java.nio.file.Files;
import java.nio.file.Path;
import java.util.regex.Matcher;
import java.util.regex.Pattern;
import javax.tools.ToolProvider;

/** README.md: its block of calls compiles and answers what stands behind the calls, and it names the whole face. */
public final class ReadmeTest {
    private static final Due DUE = new Due();

    public static void main(String[] args) throws IOException, ReflectiveOperationException {
        String text = Files.readString(Path.of(System.getProperty("readme", "README.md")));
        namesTheFace(text);
        Matcher block = Pattern.compile("(?s)```java\n(.*?)```").matcher(text);
        int blocks = 0;
        while (block.find()) {
            runBlock(block.group(1));
            blocks++;
        }
        DUE.isTrue("README.md has a block of calls", blocks > 0);
        DUE.end();
    }

    private static void namesTheFace(String text) throws IllegalAccessException {
        for (Method method : ScanDetector.class.getDeclaredMethods()) {
            if (Modifier.isPublic(method.getModifiers())) {
                DUE.isTrue("README.md names " + method.getName(), text.contains("`" + method.getName() + "("));
            }
        }
        for (Field field : ScanDetector.class.getDeclaredFields()) {
            if (Modifier.isPublic(field.getModifiers())) {
                String named = "`" + field.getName() + "` " + field.getInt(null);
                DUE.isTrue("README.md has " + named, Pattern.compile(named + "\\b").matcher(text).find());
            }
        }
    }

    /** Called by the class that is made of the block. */
    public static void check(String call, long got, long want) {
        DUE.is("README.md: " + call, got, want);
    }

    private static void runBlock(String block) throws IOException, ReflectiveOperationException {
        Path folder = Files.createTempDirectory("readme");
        Path file = folder.resolve("ReadmeBlock.java");
        try {
            String calls = block.replaceAll("(?m)^(detector\\..*\\));\\s*// = (-?\\d+).*$", "ReadmeTest.check(\"$1\", $1, $2L);");
            DUE.isTrue("the block has calls with answers", !calls.equals(block));
            Files.writeString(file, "public final class ReadmeBlock { public static void run() {\n" + calls + "}}\n");
            int exit = ToolProvider.getSystemJavaCompiler().run(null, null, null,
                "-cp", System.getProperty("java.class.path"), "-d", folder.toString(), file.toString());
            DUE.is("compiling the block", exit, 0);
            if (exit == 0) {
                runCompiled(folder);
            }
        } finally {
            Files.deleteIfExists(folder.resolve("ReadmeBlock.class"));
            Files.deleteIfExists(file);
            Files.deleteIfExists(folder);
        }
    }

    private static void runCompiled(Path folder) throws IOException, ReflectiveOperationException {
        try (URLClassLoader loader = new URLClassLoader(new URL[] {folder.toUri().toURL()}, ReadmeTest.class.getClassLoader())) {
            loader.loadClass("ReadmeBlock").getMethod("run").invoke(null);
        } catch (InvocationTargetException e) {
            DUE.fail("README.md: a call threw " + e.getCause());
        }
    }
}
