import java.io.ByteArrayOutputStream;
import java.io.IOException;
import java.io.OutputStream;
import java.net.URI;
import java.nio.file.Files;
import java.nio.file.Path;
import java.util.ArrayList;
import java.util.HashMap;
import java.util.List;
import java.util.Map;
import java.util.concurrent.ExecutorService;
import java.util.concurrent.Executors;
import java.util.concurrent.Future;
import java.util.concurrent.TimeUnit;
import javax.tools.FileObject;
import javax.tools.ForwardingJavaFileManager;
import javax.tools.JavaCompiler;
import javax.tools.JavaFileManager;
import javax.tools.JavaFileObject;
import javax.tools.SimpleJavaFileObject;
import javax.tools.StandardJavaFileManager;
import javax.tools.ToolProvider;

/**
 * Breaks one sentence of the document at a time in a copy of the class (Breaks has them), and looks whether a test of
 * that promise sees it. A break whose words the class no longer has is told as stale and passed over.
 */
public final class BrokenTest {
    private static final String[] TESTS = {"EdgesOfACommonTest", "EdgesOfReadTest", "EdgesOfAnHourTest", "EdgesOfHoursTest",
        "EdgesOfWhatComesTest", "EdgesOfWhatItIsTest", "EdgesOfWhatThereIsTest"};
    private static final int MINUTES = 5;

    public static void main(String[] args) throws Exception {
        String source = plain(Files.readString(Path.of("src/main/java/CosyAsylum.java")));
        ExecutorService workers = Executors.newFixedThreadPool(8, work -> {
            Thread thread = new Thread(work);
            thread.setDaemon(true);
            return thread;
        });
        List<Future<String>> told = new ArrayList<>();
        for (Breaks.Break b : Breaks.all()) {
            told.add(workers.submit(() -> whatIsWrong(source, b)));
        }
        int wrong = 0, stale = 0;
        for (Future<String> one : told) {
            String text = one.get(MINUTES, TimeUnit.MINUTES);
            wrong += text.isEmpty() || text.startsWith("stale") ? 0 : 1;
            stale += text.startsWith("stale") ? 1 : 0;
            if (!text.isEmpty()) {
                System.out.println(text);
            }
        }
        System.out.println("BrokenTest: " + told.size() + " sentences broken one by one, " + wrong + " not seen, " + stale + " stale");
        System.exit(wrong == 0 ? 0 : 1);
    }

    /** Without comments, each run of white space as one blank, so that a break needs no look at lines. */
    private static String plain(String source) {
        return source.replaceAll("(?s)/\\*.*?\\*/", " ").replaceAll("//[^\n]*", " ").replaceAll("\\s+", " ");
    }

    private static String whatIsWrong(String source, Breaks.Break b) throws ReflectiveOperationException {
        String name = "promise " + b.promise() + ", broken so: " + b.sentence();
        int at = source.indexOf(b.words());
        if (at < 0 || source.indexOf(b.words(), at + 1) >= 0) {
            return "stale: " + name + ": its words stand not once in the class: " + b.words();
        }
        Map<String, byte[]> classes = compiled(source.substring(0, at) + b.instead() + source.substring(at + b.words().length()));
        if (classes.isEmpty()) {
            return name + ": does not compile";
        }
        List<String> seen = seenBy(new Loader(classes));
        return seen.stream().anyMatch(s -> s.startsWith("promise " + b.promise() + ":")) ? "" : name + ": no test of the promise sees it, but " + seen;
    }

    private static List<String> seenBy(Loader loader) throws ReflectiveOperationException {
        List<String> seen = new ArrayList<>();
        for (String test : TESTS) {
            Object made = loader.loadClass(test).getConstructor().newInstance();
            for (Object sentence : (List<?>) made.getClass().getMethod("broken").invoke(made)) {
                seen.add(sentence.toString());
            }
        }
        return seen;
    }

    private static Map<String, byte[]> compiled(String source) {
        JavaCompiler compiler = ToolProvider.getSystemJavaCompiler();
        Kept kept = new Kept(compiler.getStandardFileManager(null, null, null));
        Source file = new Source(source);
        boolean done = compiler.getTask(null, kept, problem -> { }, List.of("-proc:none"), null, List.of(file)).call();
        Map<String, byte[]> classes = new HashMap<>();
        if (done) {
            kept.made.forEach((name, made) -> classes.put(name, made.bytes.toByteArray()));
        }
        return classes;
    }

    private static final class Source extends SimpleJavaFileObject {
        private final String text;

        Source(String text) {
            super(URI.create("mem:///CosyAsylum.java"), Kind.SOURCE);
            this.text = text;
        }

        @Override
        public CharSequence getCharContent(boolean ignoreErrors) {
            return text;
        }
    }

    private static final class Made extends SimpleJavaFileObject {
        private final ByteArrayOutputStream bytes = new ByteArrayOutputStream();

        Made(String name) {
            super(URI.create("mem:///" + name + ".class"), Kind.CLASS);
        }

        @Override
        public OutputStream openOutputStream() {
            return bytes;
        }
    }

    private static final class Kept extends ForwardingJavaFileManager<StandardJavaFileManager> {
        private final Map<String, Made> made = new HashMap<>();

        Kept(StandardJavaFileManager files) {
            super(files);
        }

        @Override
        public JavaFileObject getJavaFileForOutput(JavaFileManager.Location where, String name, JavaFileObject.Kind kind, FileObject of) {
            Made one = new Made(name);
            made.put(name, one);
            return one;
        }
    }

    /** The broken class, and the tests anew from where this class was loaded from. */
    private static final class Loader extends ClassLoader {
        private final Map<String, byte[]> broken;

        Loader(Map<String, byte[]> broken) {
            super(ClassLoader.getPlatformClassLoader());
            this.broken = broken;
        }

        @Override
        protected Class<?> findClass(String name) throws ClassNotFoundException {
            byte[] bytes = broken.get(name);
            try (var in = bytes == null ? BrokenTest.class.getResourceAsStream(name + ".class") : null) {
                bytes = in == null ? bytes : in.readAllBytes();
            } catch (IOException e) {
                throw new ClassNotFoundException(name, e);
            }
            if (bytes == null) {
                throw new ClassNotFoundException(name);
            }
            return defineClass(name, bytes, 0, bytes.length);
        }
    }
}
