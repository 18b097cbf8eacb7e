import java.io.ByteArrayOutputStream;
import java.io.IOException;
import java.io.PrintStream;
import java.lang.reflect.Method;
import java.lang.reflect.Modifier;
import java.net.URL;
import java.net.URLClassLoader;
import java.nio.file.Files;
import java.nio.file.Path;
import java.util.List;
import java.util.stream.Stream;
import javax.tools.ToolProvider;

/** The program in README.md prints what is said there, and the page names each call and each test. */
public final class ReadmeTest {
    private static final Path TESTS = Path.of("src/test/java");

    private ReadmeTest() {
    }

    public static void main(String[] args) throws Exception {
        String page = Files.readString(Path.of("README.md"));
        String program = block(page, "java");
        Path folder = Files.createTempDirectory("readme");
        try {
            Due.same("the program's output", outputOf(program, folder), block(page, "text"));
        } finally {
            remove(folder);
        }
        for (Method m : LetterCuts.class.getDeclaredMethods()) {
            if (Modifier.isPublic(m.getModifiers())) {
                Due.same("the page names " + m.getName(), page.contains("`" + m.getName() + "`"), true);
            }
        }
        for (String test : testNames()) {
            Due.same("the page names " + test, page.contains("`" + test + "`"), true);
        }
        Due.finish();
    }

    /** The lines of the page's first block of this kind. */
    private static String block(String page, String kind) {
        String head = "\n```" + kind + "\n";
        int start = page.indexOf(head);
        int end = start < 0 ? -1 : page.indexOf("```\n", start + head.length());
        Due.same("a block of " + kind + " is there", end >= 0, true);
        return end < 0 ? "" : page.substring(start + head.length(), end);
    }

    private static String outputOf(String program, Path folder) throws Exception {
        Path source = folder.resolve("Prank.java");
        Files.writeString(source, program);
        int code = ToolProvider.getSystemJavaCompiler().run(null, null, null, "-proc:none",
                "-cp", System.getProperty("java.class.path"), "-d", folder.toString(), source.toString());
        if (code != 0) {
            return "does not compile";
        }
        try (URLClassLoader loader = new URLClassLoader(new URL[] {folder.toUri().toURL()})) {
            return printedBy(loader.loadClass("Prank").getMethod("main", String[].class));
        }
    }

    private static String printedBy(Method main) throws ReflectiveOperationException {
        PrintStream usual = System.out;
        ByteArrayOutputStream printed = new ByteArrayOutputStream();
        System.setOut(new PrintStream(printed, true));
        try {
            main.invoke(null, (Object) new String[0]);
        } finally {
            System.setOut(usual);
        }
        return printed.toString().replace("\r\n", "\n");
    }

    private static List<String> testNames() throws IOException {
        try (Stream<Path> files = Files.list(TESTS)) {
            return files.map(file -> file.getFileName().toString()).filter(name -> name.endsWith("Test.java"))
                    .map(name -> name.substring(0, name.length() - ".java".length())).toList();
        }
    }

    private static void remove(Path folder) throws IOException {
        try (Stream<Path> files = Files.list(folder)) {
            for (Path file : files.toList()) {
                Files.delete(file);
            }
        }
        Files.delete(folder);
    }
}
