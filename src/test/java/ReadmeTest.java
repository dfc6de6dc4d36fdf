import java.io.IOException;
import java.lang.reflect.Method;
import java.lang.reflect.Modifier;
import java.net.URL;
import java.net.URLClassLoader;
import java.nio.file.Files;
import java.nio.file.Path;
import java.util.regex.Matcher;
import java.util.regex.Pattern;
import javax.tools.JavaCompiler;
import javax.tools.ToolProvider;

/** The example of README.md is compiled as it stands; each of its calls must have the answer that stands beside it. */
public final class ReadmeTest {
    private static final Pattern BLOCK = Pattern.compile("```java\n(.*?)```", Pattern.DOTALL);
    private static final Pattern ANSWERED = Pattern.compile("(?m)^(room\\.(\\w+)\\(.*?\\));\\s*// (-?\\d+|true|false)\\b");
    private static int checks = 0;
    private static int wrong = 0;

    public static void main(String[] args) throws Exception {
        String text = Files.readString(Path.of("README.md"));
        Matcher blocks = BLOCK.matcher(text);
        if (!blocks.find()) {
            throw new IllegalStateException("README.md has no method that tells a text");
        }
        String method = blocks.group(1);
        if (!blocks.find()) {
            throw new IllegalStateException("README.md has no example");
        }
        String example = blocks.group(1);
        run("public final class ReadmeExample {\n" + method + "public static void main(String[] args) {\n"
            + ANSWERED.matcher(example).replaceAll("ReadmeTest.due(\"$2\", $1, $3); //") + "}\n}\n");
        for (Method of : WishRoom.class.getDeclaredMethods()) {
            if (Modifier.isPublic(of.getModifiers()) && !(method + example).contains("room." + of.getName() + "(")) {
                wrong++;
                System.out.println("the example has no " + of.getName());
            }
        }
        System.out.println("README.md: " + checks + " calls, " + wrong + " wrong");
        if (wrong != 0 || checks == 0) {
            System.exit(1);
        }
    }

    public static void due(String call, int got, int want) {
        tell(call, String.valueOf(got), String.valueOf(want));
    }

    public static void due(String call, boolean got, boolean want) {
        tell(call, String.valueOf(got), String.valueOf(want));
    }

    private static void tell(String call, String got, String want) {
        checks++;
        if (!got.equals(want)) {
            wrong++;
            System.out.println("call " + checks + " with an answer, " + call + ": it is " + got + ", README.md says " + want);
        }
    }

    private static void run(String source) throws IOException, ReflectiveOperationException {
        Path folder = Files.createTempDirectory("readme");
        Path file = folder.resolve("ReadmeExample.java");
        Files.writeString(file, source);
        JavaCompiler compiler = ToolProvider.getSystemJavaCompiler();
        int failed = compiler.run(null, null, null, "-cp", System.getProperty("java.class.path"), "-d", folder.toString(),
            file.toString());
        if (failed != 0) {
            throw new IllegalStateException("the example of README.md does not compile");
        }
        try (URLClassLoader loader = new URLClassLoader(new URL[] {folder.toUri().toURL()})) {
            loader.loadClass("ReadmeExample").getMethod("main", String[].class).invoke(null, (Object) new String[0]);
        }
        Files.delete(folder.resolve("ReadmeExample.class"));
        Files.delete(file);
        Files.delete(folder);
    }
}
