import java.io.IOException;
import java.lang.reflect.Constructor;
import java.lang.reflect.Field;
import java.lang.reflect.Method;
import java.lang.reflect.Modifier;
import java.nio.file.Files;
import java.nio.file.Path;
import java.util.ArrayDeque;
import java.util.Arrays;
import java.util.Deque;
import java.util.Set;
import java.util.TreeSet;
import java.util.regex.Matcher;
import java.util.regex.Pattern;
import java.util.stream.Collectors;

/** The class has the document's face and no other, and keeps to those rules of LANGUAGE.md that a look can tell. */
public final class FaceTest {
    private static final String[] FACE = {"int common()", "int cosy(int,int,int)", "int hunted(int)", "int sheriff(int)",
        "int type(int)", "int clear()", "int read()", "int hour(int)", "int darn(int,int)", "int carry(int,int)", "int undo()",
        "int of(int,int)", "int about(int,int)", "int where(int)", "int then(int,int,int)", "int fate(int,int)", "int when(int)",
        "int place(int,int)", "int run(int,int)", "int stitches(int,int)", "int note(int,int,int)", "int forget()", "int is(int)",
        "int feel(int)", "int inside(int,int,int)", "int two(int,int,int)", "int rain(int)", "int years(int,int)", "long part(int)",
        "int image(int)", "int from(int)", "int status(int)", "int count(int)", "long digest()"};

    private static int wrong = 0;

    private static void must(boolean holds, String what) {
        if (!holds) {
            wrong++;
            System.out.println("FaceTest: " + what);
        }
    }

    public static void main(String[] args) throws IOException {
        face();
        inside();
        source(Files.readString(Path.of("src/main/java/CosyAsylum.java")));
        System.out.println("FaceTest: " + wrong + " wrong");
        System.exit(wrong == 0 ? 0 : 1);
    }

    private static String told(Method m) {
        String types = Arrays.stream(m.getParameterTypes()).map(Class::getName).collect(Collectors.joining(","));
        return m.getReturnType().getName() + " " + m.getName() + "(" + types + ")";
    }

    private static void face() {
        Class<?> c = CosyAsylum.class;
        must(Modifier.isPublic(c.getModifiers()) && Modifier.isFinal(c.getModifiers()), "the class is not public and final");
        Set<String> open = new TreeSet<>();
        for (Method m : c.getDeclaredMethods()) {
            if (!m.isSynthetic() && !Modifier.isPrivate(m.getModifiers())) {
                open.add((Modifier.isPublic(m.getModifiers()) && !Modifier.isStatic(m.getModifiers()) ? "" : "not public: ") + told(m));
            }
        }
        must(open.equals(new TreeSet<>(Arrays.asList(FACE))), "the methods are " + open);
        Set<String> fields = new TreeSet<>();
        for (Field f : c.getDeclaredFields()) {
            if (!f.isSynthetic() && !Modifier.isPrivate(f.getModifiers())) {
                fields.add(Modifier.toString(f.getModifiers()) + " " + f.getType() + " " + f.getName());
            }
        }
        must(fields.equals(Set.of("public static final int NONE", "public static final int BAD", "public static final int NO",
            "public static final int FULL")), "the fields are " + fields);
        must(CosyAsylum.NONE == -1 && CosyAsylum.BAD == -2 && CosyAsylum.NO == -3 && CosyAsylum.FULL == -4, "a constant is another");
        Constructor<?>[] made = c.getDeclaredConstructors();
        must(made.length == 1 && Modifier.isPublic(made[0].getModifiers()) && made[0].getParameterCount() == 0, "the constructor is another");
    }

    private static void inside() {
        Set<String> names = new TreeSet<>();
        for (String f : FACE) {
            names.add(f.substring(f.indexOf(' ') + 1, f.indexOf('(')));
        }
        must(CosyAsylum.class.getDeclaredClasses().length <= 12, "there are more than some twelve classes");
        methods(CosyAsylum.class, names);
        statics(CosyAsylum.class);
        for (Class<?> c : CosyAsylum.class.getDeclaredClasses()) {
            int mods = c.getModifiers();
            must(Modifier.isStatic(mods) && !Modifier.isPublic(mods) && !Modifier.isProtected(mods), c + " is not as rule 1 and 2 want");
            methods(c, names);
            statics(c);
        }
    }

    private static void methods(Class<?> c, Set<String> names) {
        for (Method m : c.getDeclaredMethods()) {
            must(!Modifier.isPrivate(m.getModifiers()) || m.isSynthetic() || !names.contains(m.getName()), m + " bears a public name");
            must(m.getParameterCount() <= 7, m + " takes more than seven");
        }
    }

    private static void statics(Class<?> c) {
        long own = 0;
        for (Field f : c.getDeclaredFields()) {
            must(!Modifier.isStatic(f.getModifiers()) || Modifier.isFinal(f.getModifiers()), f + " is static and not final");
            own += Modifier.isStatic(f.getModifiers()) ? 0 : 1;
        }
        must(own <= 22, c + " has more than some twenty fields");
    }

    private static void source(String text) {
        String code = text.replaceAll("(?s)/\\*.*?\\*/", " ").replaceAll("//[^\n]*", " ");
        String[] banned = {"\\bthrow\\b", "\\btry\\b", "\\bcatch\\b", "\\bsynchronized\\b", "\\bassert\\b", "::", "\\bpackage\\b",
            "\\w+Exact\\b", "\\bnew\\s+\\w+\\s*\\([^)]*\\)\\s*\\{", "\\bstatic\\s*\\{", "\\bThread\\b", "\\bRandom\\b", "\\brandom\\b",
            "currentTimeMillis", "nanoTime"};
        for (String b : banned) {
            must(!Pattern.compile(b).matcher(code).find(), "the source has " + b);
        }
        must(!code.replaceAll("\\b(case\\b[^:;{}]*|default\\s*)->", " ").contains("->"), "the source has a lambda");
        must(code.chars().allMatch(ch -> ch < 128), "the source has signs beyond 127");
        library(code);
        methodsAreShort(code);
        recursionIsStatic(code);
    }

    /** Rule 8: a method that calls itself is private and static. A call of another object's method has a dot ahead. */
    private static void recursionIsStatic(String code) {
        Matcher method = Pattern.compile("(?m)^ +((?:\\w+ )*)[\\w\\[\\]]+ (\\w+)\\([^()]*\\) \\{$").matcher(code);
        while (method.find()) {
            int end = code.indexOf("\n" + " ".repeat(method.start(1) - method.start()) + "}\n", method.end());
            String body = code.substring(method.end(), Math.max(end, method.end()));
            boolean callsItself = Pattern.compile("(?<![.\\w])(?:this\\.)?" + method.group(2) + "\\(").matcher(body).find();
            must(!callsItself || method.group(1).equals("private static "), method.group(2) + " calls itself and is not private and static");
        }
    }

    /** What rule 4 lists, and no more. */
    private static void library(String code) {
        Matcher call = Pattern.compile("\\b(System|Arrays|Math|Integer|Long)\\.(\\w+)").matcher(code);
        Set<String> numbers = Set.of("compare", "max", "min", "abs", "bitCount", "floorDiv", "floorMod", "signum", "sum", "numberOfTrailingZeros",
            "numberOfLeadingZeros", "highestOneBit", "lowestOneBit", "compareUnsigned", "divideUnsigned", "remainderUnsigned", "rotateLeft", "rotateRight",
            "reverse", "reverseBytes", "MAX_VALUE", "MIN_VALUE");
        while (call.find()) {
            boolean listed = switch (call.group(1)) {
                case "System" -> call.group(2).equals("arraycopy");
                case "Arrays" -> Set.of("copyOf", "copyOfRange", "fill").contains(call.group(2));
                default -> numbers.contains(call.group(2));
            };
            must(listed, "the source calls " + call.group());
        }
        Matcher imports = Pattern.compile("\\bimport\\s+([\\w.*]+)").matcher(code);
        while (imports.find()) {
            must(Set.of("java.util.ArrayList", "java.util.List", "java.util.Arrays", "java.util.Iterator", "java.util.*").contains(imports.group(1)),
                "the source imports " + imports.group(1));
        }
    }

    /** A method is a block right inside a class's block, that is none itself. */
    private static void methodsAreShort(String code) {
        Deque<Boolean> classes = new ArrayDeque<>();
        Deque<Integer> begins = new ArrayDeque<>();
        int header = 0, line = 1;
        for (int i = 0; i < code.length(); i++) {
            char ch = code.charAt(i);
            if (ch == '\n') {
                line++;
            } else if (ch == '{') {
                boolean isClass = code.substring(header, i).matches("(?s).*\\b(class|record|enum|interface)\\s+\\w+.*");
                classes.push(isClass);
                begins.push(line);
            } else if (ch == '}' && !classes.isEmpty()) {
                boolean isClass = classes.pop();
                int length = line - begins.pop() + 1;
                must(isClass || classes.isEmpty() || !classes.peek() || length <= 65, "a method is longer than some sixty lines, up to line " + line);
            }
            header = ch == '{' || ch == '}' || ch == ';' ? i + 1 : header;
        }
    }
}
