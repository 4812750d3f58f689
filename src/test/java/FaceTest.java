import java.lang.reflect.Constructor;
import java.lang.reflect.Field;
import java.lang.reflect.Method;
import java.lang.reflect.Modifier;
import java.nio.charset.StandardCharsets;
import java.nio.file.Files;
import java.nio.file.Path;
import java.util.Map;
import java.util.TreeMap;
import java.util.TreeSet;
import java.util.regex.Matcher;
import java.util.regex.Pattern;

/** The public face, and those rules of LANGUAGE.md that can be seen in the class or in the source's text. */
public final class FaceTest {
    private static final Check CHECK = new Check("FaceTest");
    private static final Path SOURCE = Path.of("src/main/java/AwardDesk.java");
    private static final Map<String, Integer> CONSTANTS = Map.of("NONE", -1, "BAD", -3, "NO", -4, "FULL", -5,
        "SPENT", -6, "NOTHING", -11, "INDEX", -13, "SIZE", -14);
    private static final int[] ARGUMENTS = {2, 3, 2, 3, 1, 3, 5, 1, 2, 2, 2, 4, 0, 2, 3, 1, 2, 2, 3, 3, 1, 2, 2, 3, 2, 2, 1};

    public static void main(String[] args) throws Exception {
        constants();
        methods();
        classesInside();
        words();
        CHECK.end();
    }

    private static void constants() throws Exception {
        Map<String, Integer> found = new TreeMap<>();
        for (Field f : AwardDesk.class.getDeclaredFields()) {
            if (Modifier.isStatic(f.getModifiers())) {
                CHECK.isTrue(f.getName() + " is final", Modifier.isFinal(f.getModifiers()));
            }
            if (Modifier.isPrivate(f.getModifiers())) continue;
            CHECK.isTrue(f.getName() + " is public", Modifier.isPublic(f.getModifiers()) && f.getType() == int.class);
            found.put(f.getName(), f.getInt(null));
        }
        CHECK.isTrue("the constants are " + found, found.equals(CONSTANTS));
    }

    private static void methods() {
        CHECK.isTrue("the class is public and final",
            (AwardDesk.class.getModifiers() & (Modifier.PUBLIC | Modifier.FINAL)) == (Modifier.PUBLIC | Modifier.FINAL));
        Constructor<?>[] constructors = AwardDesk.class.getDeclaredConstructors();
        CHECK.isTrue("one constructor", constructors.length == 1);
        CHECK.isTrue("it is public", Modifier.isPublic(constructors[0].getModifiers()));
        CHECK.isTrue("it takes nothing", constructors[0].getParameterCount() == 0);
        TreeSet<String> found = new TreeSet<>(), want = new TreeSet<>(), hidden = new TreeSet<>();
        for (int i = 0; i < ARGUMENTS.length; i++) want.add(RandomCalls.NAMES[i] + "/" + ARGUMENTS[i]);
        for (Method m : AwardDesk.class.getDeclaredMethods()) {
            if (Modifier.isPrivate(m.getModifiers())) {
                hidden.add(m.getName());
                continue;
            }
            boolean allInt = m.getReturnType() == int.class;
            for (Class<?> type : m.getParameterTypes()) allInt = allInt && type == int.class;
            CHECK.isTrue(m + " is public and of ints", allInt && Modifier.isPublic(m.getModifiers()) && !Modifier.isStatic(m.getModifiers()));
            found.add(m.getName() + "/" + m.getParameterCount());
        }
        CHECK.isTrue("the methods are " + found, found.equals(want));
        for (Class<?> inside : AwardDesk.class.getDeclaredClasses()) {
            for (Method m : inside.getDeclaredMethods()) hidden.add(m.getName());
        }
        for (String name : RandomCalls.NAMES) CHECK.isTrue("no hidden method bears the name " + name, !hidden.contains(name));
    }

    private static void classesInside() {
        Class<?>[] inside = AwardDesk.class.getDeclaredClasses();
        CHECK.isTrue("at most twelve classes", inside.length <= 11);
        for (Class<?> c : inside) {
            int m = c.getModifiers();
            CHECK.isTrue(c + " is static and hidden", Modifier.isStatic(m) && !Modifier.isPublic(m) && !Modifier.isProtected(m));
            int fields = 0;
            for (Field f : c.getDeclaredFields()) {
                if (!Modifier.isStatic(f.getModifiers())) fields++;
                else CHECK.isTrue(f + " is final", Modifier.isFinal(f.getModifiers()));
            }
            CHECK.isTrue(c + " has some twenty fields", fields <= 20);
            for (Method method : c.getDeclaredMethods()) {
                CHECK.isTrue(method + " takes at most seven", method.getParameterCount() <= 7);
            }
        }
    }

    private static void words() throws Exception {
        String text = Files.readString(SOURCE, StandardCharsets.US_ASCII);
        String code = text.replaceAll("(?s)/\\*.*?\\*/", " ").replaceAll("//[^\n]*", " ");
        String[] forbidden = {"\\bthrow\\b", "\\bthrows\\b", "\\btry\\b", "\\bcatch\\b", "\\bfinally\\b", "\\bsynchronized\\b",
            "\\bassert\\b", "\\bpackage\\b", "->", "::", "\"", "\\bprotected\\b", "\\bvolatile\\b", "\\bnative\\b",
            "\\bhashCode\\b", "\\bequals\\b", "\\btoString\\b", "Exact\\b", "\\bstatic\\s*\\{", "\\bwhile\\b",
            "\\bdouble\\b", "\\bfloat\\b", "\\bThread\\b", "\\bRandom\\b", "\\bObject\\b"};
        for (String word : forbidden) CHECK.isTrue("no " + word, !Pattern.compile(word).matcher(code).find());
        Matcher imports = Pattern.compile("\\bimport\\s+([^;]+);").matcher(code);
        while (imports.find()) CHECK.isTrue("import " + imports.group(1), imports.group(1).equals("java.util.Arrays"));
        Matcher library = Pattern.compile("\\b(Arrays|Math|System|Integer|Long)\\.(\\w+)").matcher(code);
        while (library.find()) {
            String used = library.group(1) + "." + library.group(2);
            CHECK.isTrue("library " + used, used.matches("Arrays\\.fill|Math\\.(min|max|abs)|System\\.arraycopy"));
        }
        for (String line : text.split("\n")) CHECK.isTrue("a line of " + line.length(), line.length() <= 120);
    }
}
