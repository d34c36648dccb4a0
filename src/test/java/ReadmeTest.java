import java.io.ByteArrayOutputStream;
import java.io.IOException;
import java.io.PrintStream;
import java.io.StringWriter;
import java.lang.reflect.Method;
import java.lang.reflect.Modifier;
import java.net.URL;
import java.net.URLClassLoader;
import java.nio.charset.StandardCharsets;
import java.nio.file.Files;
import java.nio.file.Path;
import java.util.List;
import java.util.regex.Matcher;
import java.util.regex.Pattern;
import javax.tools.JavaCompiler;
import javax.tools.StandardJavaFileManager;
import javax.tools.ToolProvider;

/** README.md: its example is compiled and run, and must say what README.md says it does; no call is left out. */
public final class ReadmeTest {
    private static int wrong = 0;

    private static void complain(String what) {
        wrong++;
        System.out.println("README.md: " + what);
    }

    private static String block(String page, String kind) {
        Matcher m = Pattern.compile("(?s)```" + kind + "\n(.*?)```").matcher(page);
        if (m.find()) return m.group(1);
        complain("has no block of " + kind);
        return "";
    }

    private static String saidBy(String source, Path folder) throws IOException, ReflectiveOperationException {
        Path file = folder.resolve("Example.java");
        Files.writeString(file, source);
        JavaCompiler javac = ToolProvider.getSystemJavaCompiler();
        StringWriter told = new StringWriter();
        try (StandardJavaFileManager files = javac.getStandardFileManager(null, null, null)) {
            List<String> options = List.of("-cp", System.getProperty("java.class.path"), "-d", folder.toString());
            if (!javac.getTask(told, files, null, options, null, files.getJavaFileObjects(file)).call()) {
                complain("the example is not Java: " + told);
                return "";
            }
        }
        PrintStream before = System.out;
        ByteArrayOutputStream out = new ByteArrayOutputStream();
        try (URLClassLoader loader = new URLClassLoader(new URL[] {folder.toUri().toURL()})) {
            System.setOut(new PrintStream(out, true, StandardCharsets.UTF_8));
            loader.loadClass("Example").getMethod("main", String[].class).invoke(null, (Object) new String[0]);
        } finally {
            System.setOut(before);
        }
        return out.toString(StandardCharsets.UTF_8);
    }

    private static void namesEveryCall(String page) {
        for (Method m : LastToWince.class.getDeclaredMethods()) {
            boolean open = Modifier.isPublic(m.getModifiers());
            if (open && !page.contains("`" + m.getName() + "`")) complain("does not name " + m.getName());
        }
    }

    public static void main(String[] args) throws IOException, ReflectiveOperationException {
        String page = Files.readString(Path.of(System.getProperty("readme", "README.md")));
        Path folder = Files.createTempDirectory("readme");
        String said = saidBy(block(page, "java"), folder);
        try (var files = Files.list(folder)) {
            for (Path file : files.toList()) Files.delete(file);
        }
        Files.delete(folder);
        if (!said.equals(block(page, "text"))) complain("the example says otherwise:\n" + said);
        namesEveryCall(page);
        System.out.println(wrong == 0 ? "the page says what is so" : wrong + " things are not so");
        if (wrong != 0) System.exit(1);
    }
}
