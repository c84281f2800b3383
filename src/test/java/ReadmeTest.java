import java.io.IOException;
import java.lang.reflect.Method;
import java.net.URL;
import java.net.URLClassLoader;
import java.nio.file.Files;
import java.nio.file.Path;
import java.util.ArrayList;
import java.util.Arrays;
import java.util.List;
import java.util.TreeSet;
import java.util.regex.Matcher;
import java.util.regex.Pattern;
import java.util.stream.Collectors;
import java.util.stream.Stream;
import javax.tools.ToolProvider;

/** What README.md says is so: its examples compile and answer as it tells, its tables have every call, its names are there. */
public final class ReadmeTest {
    private static final Pattern BLOCK = Pattern.compile("(?ms)^```java\n(.*?)^```$");
    private static final Pattern TOLD = Pattern.compile("(?m)(x\\.\\w+\\(.*?\\));\\s+// = (-?\\d+)(?=:|$)");
    private static final Pattern FAULT_ROW = Pattern.compile("(?m)^\\| `([^`]+)` \\| (-?\\d+) \\| .* \\|$");
    private static final Pattern CALL_ROW = Pattern.compile("(?m)^\\| `(\\w+)\\(([\\w, ]*)\\)` \\| (.+) \\| (.*?) ?\\|$");
    private static final Pattern FACE_LINE = Pattern.compile("(?m)^    public (?:int|long) (\\w+)\\(([\\w, ]*)\\)");

    private static int looked = 0;
    private static int wrong = 0;

    public static void main(String[] args) throws Exception {
        String readme = Files.readString(Path.of("README.md"));
        examples(readme);
        texts(readme);
        calls(readme);
        kinds(readme);
        names(readme);
        System.out.println("ReadmeTest: " + looked + " looked at, " + wrong + " wrong");
        System.exit(wrong == 0 ? 0 : 1);
    }

    /** The examples call this, compiled anew. */
    public static int look(String call, long got, long due) {
        must(got == due, "README.md says that " + call + " is " + due + ", it is " + got);
        return (int) got;
    }

    private static void must(boolean holds, String what) {
        looked++;
        if (!holds) {
            wrong++;
            System.out.println("ReadmeTest: " + what);
        }
    }

    private static void examples(String readme) throws Exception {
        StringBuilder source = new StringBuilder("public final class ReadmeExamples {\n");
        Matcher block = BLOCK.matcher(readme);
        int many = 0;
        while (block.find()) {
            String code = block.group(1);
            must(TOLD.matcher(code).results().count() == code.split("// ", -1).length - 1, "an answer can not be told from an example: " + code);
            source.append("public static void example").append(many++).append("() {\n").append(looking(code)).append("}\n");
        }
        must(many > 0, "there is no example");
        Class<?> examples = compiled(source.append("}\n").toString());
        for (int i = 0; i < many && examples != null; i++) {
            examples.getMethod("example" + i).invoke(null);
        }
    }

    private static String looking(String code) {
        return Stream.of(code.split("\n")).map(line -> {
            Matcher told = TOLD.matcher(line);
            return told.find() ? line.substring(0, told.start()) + "ReadmeTest.look(\"" + told.group(1) + "\", " + told.group(1) + ", " + told.group(2) + ");" : line;
        }).collect(Collectors.joining("\n", "", "\n"));
    }

    private static Class<?> compiled(String source) throws IOException, ReflectiveOperationException {
        Path folder = Files.createTempDirectory("readme");
        Path file = folder.resolve("ReadmeExamples.java"), made = folder.resolve("ReadmeExamples.class");
        try {
            Files.writeString(file, source);
            int code = ToolProvider.getSystemJavaCompiler().run(null, null, null, "-cp", System.getProperty("java.class.path"), "-d", folder.toString(), file.toString());
            must(code == 0, "the examples do not compile");
            try (URLClassLoader loader = new URLClassLoader(new URL[] {folder.toUri().toURL()}, ReadmeTest.class.getClassLoader())) {
                return code == 0 ? Class.forName("ReadmeExamples", true, loader) : null;
            }
        } finally {
            for (Path path : List.of(file, made, folder)) {
                Files.deleteIfExists(path);
            }
        }
    }

    private static void texts(String readme) {
        Matcher row = FAULT_ROW.matcher(readme);
        int many = 0;
        for (; row.find(); many++) {
            CosyAsylum x = new CosyAsylum();
            Edge.type(x, row.group(1));
            must(x.read() == Integer.parseInt(row.group(2)), "README.md says that " + row.group(1) + " is read as " + row.group(2));
        }
        must(many > 0, "there is no table of texts");
    }

    private static void calls(String readme) throws Exception {
        List<String> face = new ArrayList<>(), told = new ArrayList<>();
        Matcher line = FACE_LINE.matcher(Files.readString(Path.of("src/main/java/CosyAsylum.java")));
        while (line.find()) {
            face.add(line.group(1) + "(" + line.group(2).replace("int ", "") + ")");
        }
        Matcher row = CALL_ROW.matcher(readme);
        while (row.find()) {
            told.add(row.group(1) + "(" + row.group(2) + ")");
            refusals(row.group(1), row.group(2).isEmpty() ? 0 : row.group(2).split(", ").length, row.group(4));
        }
        must(told.equals(face), "the table's calls are " + told + ", the face's are " + face);
    }

    /** The reasons that a row tells, each looked at where the call meets it, and no other. */
    private static void refusals(String name, int numbers, String told) throws Exception {
        Class<?>[] types = new Class<?>[numbers];
        Arrays.fill(types, int.class);
        Method call = CosyAsylum.class.getMethod(name, types);
        List<String> met = new ArrayList<>();
        Object[] beyond = new Object[numbers], small = Arrays.copyOf(new Object[] {0, 1, 1}, numbers);
        Arrays.fill(beyond, Integer.MIN_VALUE);
        CosyAsylum x = new CosyAsylum();
        long answer = ((Number) call.invoke(x, beyond)).longValue();
        if (x.status(0) == 1) {
            met.add(answer == CosyAsylum.BAD ? "BAD" : "BAD " + answer);
        }
        x = twoTaken();
        call.invoke(x, small);
        if (x.status(1) == 1) {
            met.add("NO");
        }
        x = new CosyAsylum();
        Edge.ALL_FULL.on(x);
        int fulls = x.status(2);
        call.invoke(x, small);
        if (x.status(2) == fulls + 1) {
            met.add("FULL");
        }
        must(String.join(", ", met).equals(told), "README.md says that " + name + " is refused as " + told + ", it is as " + met);
    }

    /** Two are taken, nothing may be undone, no image is kept. */
    private static CosyAsylum twoTaken() {
        CosyAsylum x = new CosyAsylum();
        x.hunted(0);
        x.hunted(0);
        x.sheriff(0);
        x.hour(1);
        x.cosy(0, 0, 1);
        return x;
    }

    /** The names of kinds stand in order; what a row says of holding is looked at by hand, kind for kind, here. */
    private static void kinds(String readme) {
        String[] kinds = {"plain", "quilted", "wool", "grey", "knob", "old"};
        int[] newOnes = {4, 5, 4, 0, 7, 3}, wornOnes = {1, 2, 3, 0, 2, 2}, wears = {2, 2, 2, 0, 4, 3};
        for (int kind = 0; kind < kinds.length; kind++) {
            must(readme.contains("| " + kind + " | " + kinds[kind] + " |"), "README.md has no kind " + kind + ", " + kinds[kind]);
            CosyAsylum x = new CosyAsylum();
            x.cosy(kind, 0, 4);
            look("what " + kinds[kind] + " holds of size 4, wear 0", x.of(0, 4), newOnes[kind]);
            Edge.type(x, "common;cosy " + kind + " 0 4;wear 0 30;hunted 0;hunted 0;");
            x.read();
            look("what " + kinds[kind] + " holds of size 4, wear 30", x.of(0, 4), wornOnes[kind]);
            x.darn(0, 30);
            x.hour(1);
            look("how much " + kinds[kind] + " wears in an hour with two under it", x.of(0, 3), wears[kind]);
        }
    }

    /** Every file of the tests and every class inside the class is named; whatever test is named is there. */
    private static void names(String readme) throws IOException {
        TreeSet<String> files = new TreeSet<>();
        try (Stream<Path> all = Files.list(Path.of("src/test/java"))) {
            all.forEach(file -> files.add(file.getFileName().toString().replace(".java", "")));
        }
        for (String file : files) {
            must(readme.contains("`" + file + "`"), "README.md does not name " + file);
        }
        Matcher test = Pattern.compile("\\b\\w+Test\\b").matcher(readme);
        while (test.find()) {
            must(files.contains(test.group()), "README.md names " + test.group() + ", it is not there");
        }
        for (Class<?> inside : CosyAsylum.class.getDeclaredClasses()) {
            must(readme.contains("`" + inside.getSimpleName() + "`"), "README.md does not name the class " + inside.getSimpleName());
        }
    }
}
