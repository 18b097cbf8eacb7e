import java.io.ByteArrayOutputStream;
import java.io.IOException;
import java.io.InputStream;
import java.io.OutputStream;
import java.lang.reflect.Method;
import java.net.URI;
import java.nio.file.Files;
import java.nio.file.Path;
import java.util.ArrayList;
import java.util.HashMap;
import java.util.List;
import java.util.Map;
import java.util.Set;
import java.util.TreeSet;
import java.util.regex.Matcher;
import java.util.regex.Pattern;
import javax.tools.FileObject;
import javax.tools.ForwardingJavaFileManager;
import javax.tools.JavaFileManager;
import javax.tools.JavaFileObject;
import javax.tools.JavaFileObject.Kind;
import javax.tools.SimpleJavaFileObject;
import javax.tools.ToolProvider;

/**
 * Breaks the class on purpose, sentence by sentence, as src/test/mutants.txt tells: each time the test of that very
 * sentence must fail. So no sentence has a test that would pass whatever the class does.
 */
public final class MutantsTest {
    private static final Path MUTANTS = Path.of("src/test/mutants.txt");
    private static final Path SOURCE = Path.of("src/main/java/LetterCuts.java");

    /** One for each thread, as it is slow to open and not to be shared. */
    private static final ThreadLocal<JavaFileManager> LIBRARY = ThreadLocal.withInitial(
            () -> ToolProvider.getSystemJavaCompiler().getStandardFileManager(null, null, null));

    /** A place of the source that is altered; it must be there just once, whatever its spaces and line ends. */
    private record Mutant(int line, String sentence, String from, String to) {
        String in(String source) {
            String words = Pattern.quote(from.strip()).replaceAll("\\s+", "\\\\E\\\\s+\\\\Q");
            Matcher m = Pattern.compile(words).matcher(source);
            if (!m.find()) {
                return null;
            }
            String altered = source.substring(0, m.start()) + to + source.substring(m.end());
            return m.find() ? null : altered;
        }

        @Override
        public String toString() {
            return MUTANTS + ":" + line + " (" + sentence + ")";
        }
    }

    private MutantsTest() {
    }

    public static void main(String[] args) throws Exception {
        String source = Files.readString(SOURCE);
        List<Mutant> mutants = read(Files.readAllLines(MUTANTS));
        Map<Mutant, String> failures = new HashMap<>();
        mutants.parallelStream().forEach(mutant -> {
            String failure = failureOf(mutant, source);
            synchronized (failures) {
                failures.put(mutant, failure);
            }
        });
        mutants.forEach(mutant -> Due.same(mutant.toString(), failures.get(mutant), "noticed"));
        checkAllSentences(mutants);
        Due.finish();
    }

    private static List<Mutant> read(List<String> lines) {
        List<Mutant> mutants = new ArrayList<>();
        String sentence = "";
        int start = 0;
        StringBuilder from = new StringBuilder();
        StringBuilder to = new StringBuilder();
        for (int i = 0; i <= lines.size(); i++) {
            String line = i < lines.size() ? lines.get(i) : "";
            if (!line.startsWith("- ") && !line.startsWith("+") && from.length() > 0) {
                mutants.add(new Mutant(start, sentence, from.toString(), to.toString()));
                from.setLength(0);
                to.setLength(0);
            }
            if (line.startsWith("= ")) {
                sentence = line.substring(2);
            } else if (line.startsWith("- ")) {
                start = from.length() == 0 ? i + 1 : start;
                from.append(line.substring(2)).append('\n');
            } else if (line.startsWith("+")) {
                to.append(line.substring(1)).append('\n');
            }
        }
        return mutants;
    }

    /** "noticed" if the sentence's test fails with this mutant, otherwise what happened. */
    private static String failureOf(Mutant mutant, String source) {
        String altered = mutant.in(source);
        if (altered == null) {
            return "its text is not in the class just once";
        }
        try {
            Map<String, byte[]> classes = compile(altered);
            if (classes.isEmpty()) {
                return "does not compile";
            }
            Set<String> broken = brokenSentences(new MutantLoader(classes));
            return hasOne(broken, mutant.sentence) ? "noticed" : "not noticed, but " + broken;
        } catch (Exception e) {
            return "the tests themselves failed: " + e + ", " + e.getCause();
        }
    }

    private static boolean hasOne(Set<String> sentences, String firstWords) {
        return sentences.stream().anyMatch(s -> s.startsWith(firstWords));
    }

    @SuppressWarnings("unchecked")
    private static Set<String> brokenSentences(ClassLoader loader) throws Exception {
        call(loader, "Due", "beQuiet");
        call(loader, "TermSentencesTest", "run");
        call(loader, "PromiseSentencesTest", "run");
        return (Set<String>) call(loader, "Sentences", "broken");
    }

    private static Object call(ClassLoader loader, String name, String method) throws Exception {
        Method m = loader.loadClass(name).getDeclaredMethod(method);
        m.setAccessible(true);
        return m.invoke(null);
    }

    /** Each sentence that a test names must have a mutant. */
    private static void checkAllSentences(List<Mutant> mutants) {
        TermSentencesTest.run();
        PromiseSentencesTest.run();
        Set<String> without = new TreeSet<>(Sentences.said());
        for (Mutant mutant : mutants) {
            Due.same("a test is for the sentence of " + mutant, hasOne(Sentences.said(), mutant.sentence), true);
            without.removeIf(s -> s.startsWith(mutant.sentence));
        }
        Due.same("sentences without a mutant", String.join("\n", without), "");
    }

    /** The classes of a source, by their names; none if it does not compile. */
    private static Map<String, byte[]> compile(String source) {
        JavaFileObject file = new SimpleJavaFileObject(URI.create("mem:///LetterCuts.java"), Kind.SOURCE) {
            @Override
            public CharSequence getCharContent(boolean ignoreErrors) {
                return source;
            }
        };
        ClassKeeper keeper = new ClassKeeper();
        boolean good = ToolProvider.getSystemJavaCompiler()
                .getTask(null, keeper, message -> { }, List.of("-proc:none"), null, List.of(file)).call();
        return good ? keeper.classes : Map.of();
    }

    /** Keeps what is compiled, rather than write files. */
    private static final class ClassKeeper extends ForwardingJavaFileManager<JavaFileManager> {
        private final Map<String, byte[]> classes = new HashMap<>();

        ClassKeeper() {
            super(LIBRARY.get());
        }

        @Override
        public JavaFileObject getJavaFileForOutput(Location place, String name, Kind kind, FileObject sibling) {
            return new SimpleJavaFileObject(URI.create("mem:///" + name + ".class"), kind) {
                @Override
                public OutputStream openOutputStream() {
                    return streamInto(name);
                }
            };
        }

        private OutputStream streamInto(String name) {
            return new ByteArrayOutputStream() {
                @Override
                public void close() {
                    classes.put(name, toByteArray());
                }
            };
        }
    }

    /** Has the altered class, and the tests' own classes anew, as they count in static fields. */
    private static final class MutantLoader extends ClassLoader {
        private final Map<String, byte[]> altered;

        MutantLoader(Map<String, byte[]> altered) {
            super(ClassLoader.getPlatformClassLoader());
            this.altered = altered;
        }

        @Override
        protected Class<?> findClass(String name) throws ClassNotFoundException {
            byte[] bytes = altered.containsKey(name) ? altered.get(name) : bytesOf(name);
            return defineClass(name, bytes, 0, bytes.length);
        }

        private static byte[] bytesOf(String name) throws ClassNotFoundException {
            try (InputStream in = ClassLoader.getSystemResourceAsStream(name.replace('.', '/') + ".class")) {
                if (in == null) {
                    throw new ClassNotFoundException(name);
                }
                return in.readAllBytes();
            } catch (IOException e) {
                throw new ClassNotFoundException(name, e);
            }
        }
    }
}
