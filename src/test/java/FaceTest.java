import java.io.IOException;
import java.lang.reflect.Constructor;
import java.lang.reflect.Field;
import java.lang.reflect.Method;
import java.lang.reflect.Modifier;
import java.nio.file.Files;
import java.nio.file.Path;
import java.util.Arrays;
import java.util.Set;
import java.util.TreeSet;
import java.util.regex.Matcher;
import java.util.regex.Pattern;
import java.util.stream.Collectors;

/** The class has the document's face and no other, and keeps to those rules of LANGUAGE.md that a look can tell. */
public final class FaceTest {
    private static final String[] FACE = {"int common()", "int cosy(int,int,int)", "int hunted(int)", "int sheriff(int)",
        "int type(int)", "int clear()", "int read()", "int hour(int)", "int darn(int,int)", "int carry(int,int)", "int undo()",
        "int of(int,int)", "int about(int,int)", "int where(int)", "int then(int,int,int)", "int fate(int,int)", "int when(int)",
        "int place(int,int)", "int run(int,int)", "int stitches(int,int)", "int note(int,int,int)", "int forget()", "int is(int)",
        "int feel(int)", "int inside(int,int,int)", "int two(int,int,int)", "int rain(int)", "int years(int,int)", "long part(int)",
        "int image(int)", "int from(int)", "int status(int)", "int count(int)", "long digest()"};

    private static int wrong = 0;

    private static void must(boolean holds, String what) {
        if (!holds) {
            wrong++;
            System.out.println("FaceTest: " + what);
        }
    }

    public static void main(String[] args) throws IOException {
        face();
        inside();
        source(Files.readString(Path.of("src/main/java/CosyAsylum.java")));
        System.out.println("FaceTest: " + wrong + " wrong");
        System.exit(wrong == 0 ? 0 : 1);
    }

    private static String told(Method m) {
        String types = Arrays.stream(m.getParameterTypes()).map(Class::getName).collect(Collectors.joining(","));
        return m.getReturnType().getName() + " " + m.getName() + "(" + types + ")";
    }

    private static void face() {
        Class<?> c = CosyAsylum.class;
        must(Modifier.isPublic(c.getModifiers()) && Modifier.isFinal(c.getModifiers()), "the class is not public and final");
        Set<String> open = new TreeSet<>();
        for (Method m : c.getDeclaredMethods()) {
            if (!m.isSynthetic() && !Modifier.isPrivate(m.getModifiers())) {
                open.add((Modifier.isPublic(m.getModifiers()) && !Modifier.isStatic(m.getModifiers()) ? "" : "not public: ") + told(m));
            }
        }
        must(open.equals(new TreeSet<>(Arrays.asList(FACE))), "the methods are " + open);
        Set<String> fields = new TreeSet<>();
        for (Field f : c.getDeclaredFields()) {
            if (!f.isSynthetic() && !Modifier.isPrivate(f.getModifiers())) {
                fields.add(Modifier.toString(f.getModifiers()) + " " + f.getType() + " " + f.getName());
            }
        }
        must(fields.equals(Set.of("public static final int NONE", "public static final int BAD", "public static final int NO",
            "public static final int FULL")), "the fields are " + fields);
        must(CosyAsylum.NONE == -1 && CosyAsylum.BAD == -2 && CosyAsylum.NO == -3 && CosyAsylum.FULL == -4, "a constant is another");
        Constructor<?>[] made = c.getDeclaredConstructors();
        must(made.length == 1 && Modifier.isPublic(made[0].getModifiers()) && made[0].getParameterCount() == 0, "the constructor is another");
    }

    private static void inside() {
        Set<String> names = new TreeSet<>();
        for (String f : FACE) {
            names.add(f.substring(f.indexOf(' ') + 1, f.indexOf('(')));
        }
        must(CosyAsylum.class.getDeclaredClasses().length <= 11, "there are more than some twelve classes");
        for (Method m : CosyAsylum.class.getDeclaredMethods()) {
            must(!Modifier.isPrivate(m.getModifiers()) || !names.contains(m.getName()), m + " bears a public name");
        }
        statics(CosyAsylum.class);
        for (Class<?> c : CosyAsylum.class.getDeclaredClasses()) {
            int mods = c.getModifiers();
            must(Modifier.isStatic(mods) && !Modifier.isPublic(mods) && !Modifier.isProtected(mods), c + " is not as rule 1 and 2 want");
            for (Method m : c.getDeclaredMethods()) {
                must(!names.contains(m.getName()), m + " bears a public name");
                must(m.getParameterCount() <= 7, m + " takes more than seven");
            }
            statics(c);
        }
    }

    private static void statics(Class<?> c) {
        long own = 0;
        for (Field f : c.getDeclaredFields()) {
            must(!Modifier.isStatic(f.getModifiers()) || Modifier.isFinal(f.getModifiers()), f + " is static and not final");
            own += Modifier.isStatic(f.getModifiers()) ? 0 : 1;
        }
        must(own <= 20, c + " has more than some twenty fields");
    }

    private static void source(String text) {
        String code = text.replaceAll("(?s)/\\*.*?\\*/", " ").replaceAll("//[^\n]*", " ");
        String[] banned = {"\\bthrow\\b", "\\btry\\b", "\\bcatch\\b", "\\bsynchronized\\b", "\\bassert\\b", "->", "::", "\\bpackage\\b",
            "\\bimport\\b", "Exact\\b", "\\bnew\\s+\\w+\\s*\\([^)]*\\)\\s*\\{", "\\bfloat\\b", "\\bdouble\\b", "\\bwhile\\s*\\(\\s*true", "\\bThread\\b",
            "\\bRandom\\b", "currentTimeMillis", "nanoTime"};
        for (String b : banned) {
            must(!Pattern.compile(b).matcher(code).find(), "the source has " + b);
        }
        must(code.chars().allMatch(ch -> ch < 128), "the source has signs beyond 127");
        Matcher call = Pattern.compile("\\b(System|Arrays|Math|Integer|Long)\\.(\\w+)").matcher(code);
        while (call.find()) {
            must(Set.of("System.arraycopy", "Math.abs", "Math.max", "Math.min", "Integer.bitCount").contains(call.group()),
                "the source calls " + call.group());
        }
        int length = 0;
        for (String line : code.split("\n")) {
            length = line.matches("    }|        }") ? 0 : length + 1;
            must(length <= 90, "a method seems longer than some sixty lines at: " + line);
            length = line.isBlank() ? 0 : length;
        }
    }
}
